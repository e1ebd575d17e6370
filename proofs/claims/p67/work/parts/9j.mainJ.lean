theorem lk_10_64 : ow_lv RX10 64 yX7_readSetup cX7_readSetup 2 (some .boolean) 1 := ⟨ow_T_in 415 (by decide +kernel) (by decide +kernel), ow_T_in 416 (by decide +kernel) (by decide +kernel), ow_T_in 417 (by decide +kernel) (by decide +kernel), ow_T_in 7 (by decide +kernel) (by decide +kernel), ow_T_in 418 (by decide +kernel) (by decide +kernel), ⟨by decide +kernel, by decide +kernel, by decide +kernel⟩⟩
def A_minutesToSale_L37 (x : Nat) (b : Int32) : Nat → ow_I → Nat → Int32 × ow_I
  | 0, I, _ => (default, I)
  | n + 1, I, i => if 500 < i then ((-1), I) else lt (K_letPass (x + 52) 1 I) (fun (r2 : Int32 × ow_I) => if r2.2 (x + 52 + 11 + 2 * (tn b)) 7 = nI 2 then (nI i, r2.2) else A_minutesToSale_L37 x b n r2.2 (i + 1))
def A_minutesToSale (x : Nat) (b : Int32) (I : ow_I) : Int32 × ow_I :=
  if I (x + 1 + 11 + 2 * (tn b)) 7 = nI 2 then (nI 0, I) else lt (K_copyFrom (x + 52) (x + 1) I) (fun (I1 : ow_I) => A_minutesToSale_L37 x b 501 I1 1)
set_option maxRecDepth 100000 in
set_option maxHeartbeats 400000 in
theorem cA_minutesToSale {Z : Nat → Nat} {S : Nat → Option ow_Sh} {I : ow_I} {V : Nat → Nat → Value} {z : Nat} {x : Nat} {b : Int32} (h_x : au_S S x) (hX : au_V x I) (hb : 0 ≤ b ∧ tn b < tn (I (x + 1) 10)) : ow_Cx Z yX10_minutesToSale cX10_minutesToSale 4 (some .int) 5 0 0 [.ref x, .int b] (S, I, V, z) (ox_s S V z 0 (some (.int ((A_minutesToSale x b I).1))) ((A_minutesToSale x b I).2)) := by
  refine ow_Cx.off rfl (Nat.le_of_ble_eq_true rfl) (fun X K E G F hk => ?_)
  have E : ow_E X RX10 cX10_minutesToSale 4 (ow_rm 5 0 0) := E
  refine or_lv [(0, .ref x), (1, .int b)] rfl ?_
  have hV := hX.1
  have L37 : ∀ (n : Nat) (I : ow_I) (i : Nat) (hW : k_V (x + 52) I) (hb2 : tn b < 20) (hi : i ≤ 501) (hm : 501 - i < n) (hk : ox_e K S V z 0 (some (.int ((A_minutesToSale_L37 x b n I i).1))) ((A_minutesToSale_L37 x b n I i).2)), ow_W X (0 + 0) (0 + 0) (S, I, V, z) 37 [(0, .ref x), (2, .ref (x + 52 + 11 + 2 * (tn b))), (3, .int (nI i))] [] := by
    intro n
    induction n with
    | zero => intro I i hW hb2 hi hm; omega
    | succ n ih =>
      intro I i hW hb2 hi hm hk
      dsimp only [A_minutesToSale_L37] at hk
      refine or_iload_n E rfl dX10_minutesToSale_37 ?_
      refine or_sipush (v := nI 500) E rfl dX10_minutesToSale_38 ?_
      refine or_icmp_gtN 69 E dX10_minutesToSale_41 rfl (by omega) (by omega) (fun q41 => ?_) (fun q41 => ?_)
      · replace hk := ite_p (P := fun r : Int32 × ow_I => ox_e K S V z 0 (some (.int ((r).1))) ((r).2)) q41 hk
        refine or_iconst (v := -1) E rfl dX10_minutesToSale_69 ?_
        try dsimp only at hk
        exact or_xr E F (fun X' E' F' => or_iret E' F' dX10_minutesToSale_70 (Nat.le_of_ble_eq_true rfl) (Nat.le_of_ble_eq_true rfl) (hk.1 rfl))
      · replace hk := ite_n (P := fun r : Int32 × ow_I => ox_e K S V z 0 (some (.int ((r).1))) ((r).2)) q41 hk
        refine or_aload_n E rfl dX10_minutesToSale_44 ?_
        refine ot_getC E fl_10_16 dX10_minutesToSale_45 h_x.1 rfl ?_
        refine or_iconst (v := nI 1) E rfl dX10_minutesToSale_48 ?_
        refine or_cV1r (cK_letPass  h_x.2.2.1 (by decide) (fun n => kV_it n _ hW)) E lk_10_144 dX10_minutesToSale_49 h_x.2.2.1.1 rfl rfl (by decide) (by decide) ⟨(Nat.le_of_ble_eq_true rfl), (Nat.le_of_ble_eq_true rfl)⟩ (Nat.le_of_ble_eq_true rfl) ?_
        obtain ⟨r2, hr2⟩ : ∃ y_ : Int32 × ow_I, y_ = K_letPass (x + 52) 1 I := ⟨_, rfl⟩
        replace hk := lt_k (P := fun r : Int32 × ow_I => ox_e K S V z 0 (some (.int ((r).1))) ((r).2)) hr2 hk
        refine or_nmJ hr2 ?_
        refine or_pop E rfl dX10_minutesToSale_52 ?_
        refine or_aload_n E rfl dX10_minutesToSale_53 ?_
        refine ot_getI E fl_10_286 dX10_minutesToSale_54 (mk_br2 h_x.2.2.1 hb2).1 rfl ?_
        refine or_iconst (v := nI 2) E rfl dX10_minutesToSale_57 ?_
        refine or_icmp_ne 63 E dX10_minutesToSale_58 rfl (fun q58 => ?_) (fun q58 => ?_)
        · replace hk := ite_n (P := fun r : Int32 × ow_I => ox_e K S V z 0 (some (.int ((r).1))) ((r).2)) q58 hk
          refine or_iincN (c := 1) E dX10_minutesToSale_63 rfl rfl (by decide) ?_
          refine or_goto 37 E dX10_minutesToSale_66 rfl ?_
          refine or_lv _ ?_ (ih _ _ (by subst hr2; exact (kV_let hW)) (by subst hr2; exact hb2) (by subst hr2; omega) (by omega) hk)
          rfl
        · replace hk := ite_p (P := fun r : Int32 × ow_I => ox_e K S V z 0 (some (.int ((r).1))) ((r).2)) q58 hk
          refine or_iload_n E rfl dX10_minutesToSale_61 ?_
          try dsimp only at hk
          exact or_xr E F (fun X' E' F' => or_iret E' F' dX10_minutesToSale_62 (Nat.le_of_ble_eq_true rfl) (Nat.le_of_ble_eq_true rfl) (hk.1 rfl))
  try dsimp only [A_minutesToSale] at hk
  refine or_aload_n E rfl dX10_minutesToSale_0 ?_
  refine or_iload_n E rfl dX10_minutesToSale_1 ?_
  refine or_fV1r (cA_barrelAt (Z := Z) h_x hV hb) E G F lk_10_262 dX10_minutesToSale_2 h_x.1 rfl rfl (by decide) (by decide) ⟨(Nat.le_of_ble_eq_true rfl), (Nat.le_of_ble_eq_true rfl)⟩ (Nat.le_of_ble_eq_true rfl) (fun _ => ?_) (fun h => absurd h (Nat.lt_irrefl 0))
  refine ot_getI E fl_10_286 dX10_minutesToSale_5 (mk_br2 h_x.2.1 (lt20 hV hb)).1 rfl ?_
  refine or_iconst (v := nI 2) E rfl dX10_minutesToSale_8 ?_
  refine or_icmp_ne 14 E dX10_minutesToSale_9 rfl (fun q9 => ?_) (fun q9 => ?_)
  · replace hk := ite_n (P := fun r : Int32 × ow_I => ox_e K S V z 0 (some (.int ((r).1))) ((r).2)) q9 hk
    refine or_aload_n E rfl dX10_minutesToSale_14 ?_
    refine ot_getC E fl_10_16 dX10_minutesToSale_15 h_x.1 rfl ?_
    refine or_aload_n E rfl dX10_minutesToSale_18 ?_
    refine ot_getC E fl_10_10 dX10_minutesToSale_19 h_x.1 rfl ?_
    refine or_cV1v (cK_copyFrom  h_x.2.2.1 h_x.2.1 (by omega) hX.1.1.1 hX.1.1.2 hX.1.2.1.1 hX.1.2.1.2) E lk_10_101 dX10_minutesToSale_22 h_x.2.2.1.1 rfl rfl (by decide) (by decide) ⟨(Nat.le_of_ble_eq_true rfl), (Nat.le_of_ble_eq_true rfl)⟩ (Nat.le_of_ble_eq_true rfl) ?_
    obtain ⟨I1, hI1⟩ : ∃ y_ : ow_I, y_ = K_copyFrom (x + 52) (x + 1) I := ⟨_, rfl⟩
    replace hk := lt_k (P := fun r : Int32 × ow_I => ox_e K S V z 0 (some (.int ((r).1))) ((r).2)) hI1 hk
    refine or_nmI hI1 ?_
    refine or_aload_n E rfl dX10_minutesToSale_25 ?_
    refine ot_getC E fl_10_16 dX10_minutesToSale_26 h_x.1 rfl ?_
    refine ot_getC E fl_10_194 dX10_minutesToSale_29 h_x.2.2.1.1 rfl ?_
    refine or_iload_n E rfl dX10_minutesToSale_32 ?_
    refine or_top (nI_tn (by subst hI1; exact hb.1)).symm ?_
    refine ot_aald (j := tn b) E dX10_minutesToSale_33 h_x.2.2.1.2.2.2.1 rfl rfl (by subst hI1; exact (lt20 hV hb)) (Nat.le_of_ble_eq_true rfl) ?_
    refine or_astore_n E dX10_minutesToSale_34 (by decide) ?_
    refine or_iconst (v := nI 1) E rfl dX10_minutesToSale_35 ?_
    refine or_istore_n E dX10_minutesToSale_36 (by decide) ?_
    refine or_lv _ ?_ (L37 501 _ _ (by subst hI1; exact (kV_sc hX.1 hX.2.1)) (by subst hI1; exact (lt20 hX.1 hb)) (by decide) (by decide) hk)
    rfl
  · replace hk := ite_p (P := fun r : Int32 × ow_I => ox_e K S V z 0 (some (.int ((r).1))) ((r).2)) q9 hk
    refine or_iconst (v := nI 0) E rfl dX10_minutesToSale_12 ?_
    try dsimp only at hk
    exact or_xr E F (fun X' E' F' => or_iret E' F' dX10_minutesToSale_13 (Nat.le_of_ble_eq_true rfl) (Nat.le_of_ble_eq_true rfl) (hk.1 rfl))
def A_loadSetup (x : Nat) (I : ow_I) : Int32 × ow_I :=
  lt (Q_readSetup (x + 515) (x + 52) I) (fun (r1 : Bool × ow_I) => lt (ow_u r1.2 ((x + 515) + 1) 1 (nI 0)) (fun (I2 : ow_I) => lt (H_remember (x + 103) (x + 1) I2) (fun (I3 : ow_I) => lt (K_copyFrom (x + 1) (x + 52) I3) (fun (I4 : ow_I) => (I4 (x + 1) 10, I4)))))
set_option maxRecDepth 100000 in
set_option maxHeartbeats 400000 in
theorem cA_loadSetup {Z : Nat → Nat} {S : Nat → Option ow_Sh} {I : ow_I} {V : Nat → Nat → Value} {z : Nat} {x : Nat} (h_x : au_S S x) (hX : au_V x I) (hg : (Q_readSetup (x + 515) (x + 52) I).1 = true) : ow_Cx Z yX10_loadSetup cX10_loadSetup 2 (some .int) 9 0 0 [.ref x] (S, I, V, z) (ox_s S V z 0 (some (.int ((A_loadSetup x I).1))) ((A_loadSetup x I).2)) := by
  refine ow_Cx.off rfl (Nat.le_of_ble_eq_true rfl) (fun X K E G F hk => ?_)
  have E : ow_E X RX10 cX10_loadSetup 2 (ow_rm 9 0 0) := E
  refine or_lv [(0, .ref x)] rfl ?_
  try dsimp only [A_loadSetup] at hk
  refine or_aload_n E rfl dX10_loadSetup_0 ?_
  refine ot_getC E fl_10_37 dX10_loadSetup_1 h_x.1 rfl ?_
  refine or_aload_n E rfl dX10_loadSetup_4 ?_
  refine ot_getC E fl_10_16 dX10_loadSetup_5 h_x.1 rfl ?_
  refine or_fV1r (cQ_readSetup (Z := Z)  h_x.2.2.2.2.2.2.1 h_x.2.2.1 hX.2.2.2.2.2 (by omega) hX.2.1) E G F lk_10_64 dX10_loadSetup_8 h_x.2.2.2.2.2.2.1.1 rfl rfl (by decide) (by decide) ⟨(Nat.le_of_ble_eq_true rfl), (Nat.le_of_ble_eq_true rfl)⟩ (Nat.le_of_ble_eq_true rfl) (fun _ => ?_) (fun h => absurd h (Nat.lt_irrefl 0))
  obtain ⟨r1, hr1⟩ : ∃ y_ : Bool × ow_I, y_ = Q_readSetup (x + 515) (x + 52) I := ⟨_, rfl⟩
  replace hk := lt_k (P := fun r : Int32 × ow_I => ox_e K S V z 0 (some (.int ((r).1))) ((r).2)) hr1 hk
  refine or_nmZ hr1 ?_
  refine or_istore_n E dX10_loadSetup_11 (by decide) ?_
  refine or_aload_n E rfl dX10_loadSetup_12 ?_
  refine ot_getC E fl_10_37 dX10_loadSetup_13 h_x.1 rfl ?_
  refine ot_getC E fl_10_52 dX10_loadSetup_16 h_x.2.2.2.2.2.2.1.1 rfl ?_
  refine or_iconst (v := nI 0) E rfl dX10_loadSetup_19 ?_
  refine ot_putI E fl_10_68 fw_5_1 dX10_loadSetup_20 h_x.2.2.2.2.2.2.1.2.1.1 rfl ?_
  obtain ⟨I2, hI2⟩ : ∃ y_ : ow_I, y_ = ow_u r1.2 ((x + 515) + 1) 1 (nI 0) := ⟨_, rfl⟩
  replace hk := lt_k (P := fun r : Int32 × ow_I => ox_e K S V z 0 (some (.int ((r).1))) ((r).2)) hI2 hk
  refine or_nmI hI2 ?_
  refine or_iload_n E rfl dX10_loadSetup_23 ?_
  refine or_if_neZ 37 E dX10_loadSetup_24 rfl (fun q24 => ?_) (fun q24 => (by subst hI2 hr1; exact (hs_n hg) q24))
  refine or_aload_n E rfl dX10_loadSetup_37 ?_
  refine ot_getC E fl_10_22 dX10_loadSetup_38 h_x.1 rfl ?_
  refine or_aload_n E rfl dX10_loadSetup_41 ?_
  refine ot_getC E fl_10_10 dX10_loadSetup_42 h_x.1 rfl ?_
  refine or_cV1v (cH_remember  h_x.2.2.2.1 h_x.2.1 (by subst hI2 hr1; omega) (by subst hI2 hr1; exact (au_rs hX).2.2.2.2.1.1) (by subst hI2 hr1; exact (au_rs hX).2.2.2.2.1.2) (by subst hI2 hr1; exact (au_rs hX).1.1.1) (by subst hI2 hr1; exact (au_rs hX).1.1.2) (by subst hI2 hr1; exact (au_rs hX).1.2.1.1) (by subst hI2 hr1; exact (au_rs hX).1.2.1.2)) E lk_10_97 dX10_loadSetup_45 h_x.2.2.2.1.1 rfl rfl (by decide) (by decide) ⟨(Nat.le_of_ble_eq_true rfl), (Nat.le_of_ble_eq_true rfl)⟩ (Nat.le_of_ble_eq_true rfl) ?_
  obtain ⟨I3, hI3⟩ : ∃ y_ : ow_I, y_ = H_remember (x + 103) (x + 1) I2 := ⟨_, rfl⟩
  replace hk := lt_k (P := fun r : Int32 × ow_I => ox_e K S V z 0 (some (.int ((r).1))) ((r).2)) hI3 hk
  refine or_nmI hI3 ?_
  refine or_aload_n E rfl dX10_loadSetup_48 ?_
  refine ot_getC E fl_10_10 dX10_loadSetup_49 h_x.1 rfl ?_
  refine or_aload_n E rfl dX10_loadSetup_52 ?_
  refine ot_getC E fl_10_16 dX10_loadSetup_53 h_x.1 rfl ?_
  refine or_cV1v (cK_copyFrom  h_x.2.1 h_x.2.2.1 (by subst hI3 hI2 hr1; omega) (by subst hI3 hI2 hr1; rw [rr_rem (au_rs hX) (by omega)]; exact (au_rs hX).2.1.1.1) (by subst hI3 hI2 hr1; rw [rr_rem (au_rs hX) (by omega)]; exact (au_rs hX).2.1.1.2) (by subst hI3 hI2 hr1; rw [rr_rem (au_rs hX) (by omega)]; exact (au_rs hX).2.1.2.1.1) (by subst hI3 hI2 hr1; rw [rr_rem (au_rs hX) (by omega)]; exact (au_rs hX).2.1.2.1.2)) E lk_10_101 dX10_loadSetup_56 h_x.2.1.1 rfl rfl (by decide) (by decide) ⟨(Nat.le_of_ble_eq_true rfl), (Nat.le_of_ble_eq_true rfl)⟩ (Nat.le_of_ble_eq_true rfl) ?_
  obtain ⟨I4, hI4⟩ : ∃ y_ : ow_I, y_ = K_copyFrom (x + 1) (x + 52) I3 := ⟨_, rfl⟩
  replace hk := lt_k (P := fun r : Int32 × ow_I => ox_e K S V z 0 (some (.int ((r).1))) ((r).2)) hI4 hk
  refine or_nmI hI4 ?_
  refine or_aload_n E rfl dX10_loadSetup_59 ?_
  refine ot_getC E fl_10_10 dX10_loadSetup_60 h_x.1 rfl ?_
  refine ot_getI E fl_10_104 dX10_loadSetup_63 h_x.2.1.1 rfl ?_
  try dsimp only at hk
  exact or_xr E F (fun X' E' F' => or_iret E' F' dX10_loadSetup_66 (Nat.le_of_ble_eq_true rfl) (Nat.le_of_ble_eq_true rfl) (hk.1 rfl))
