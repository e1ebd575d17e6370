theorem fl_10_116 : ow_fl RX10 116 7 3 := ⟨_, rfl, by decide, ow_T_in 324 (by decide +kernel) (by decide +kernel), ow_ok7⟩
theorem fl_10_119 : ow_fl RX10 119 7 1 := ⟨_, rfl, by decide, ow_T_in 321 (by decide +kernel) (by decide +kernel), ow_ok7⟩
theorem lk_10_110 : ow_lv RX10 110 yX7_readScript cX7_readScript 4 (some .boolean) 1 := ⟨ow_T_in 1140 (by decide +kernel) (by decide +kernel), ow_T_in 1141 (by decide +kernel) (by decide +kernel), ow_T_in 1142 (by decide +kernel) (by decide +kernel), ow_T_in 7 (by decide +kernel) (by decide +kernel), ow_T_in 1143 (by decide +kernel) (by decide +kernel), ⟨by decide +kernel, by decide +kernel, by decide +kernel⟩⟩
theorem lk_10_123 : ow_lv RX10 123 yX6_execute cX6_execute 2 (some .boolean) 1 := ⟨ow_T_in 1171 (by decide +kernel) (by decide +kernel), ow_T_in 1172 (by decide +kernel) (by decide +kernel), ow_T_in 1173 (by decide +kernel) (by decide +kernel), ow_T_in 2 (by decide +kernel) (by decide +kernel), ow_T_in 1174 (by decide +kernel) (by decide +kernel), ⟨by decide +kernel, by decide +kernel, by decide +kernel⟩⟩
def A_runScript_L53 (x : Nat) : Nat → ow_I → Nat → Nat × Int32 × ow_I
  | 0, I, _ => (0, 0, I)
  | n + 1, I, i => if tn (I (x + 515) 3) ≤ i then (0, nI i, I) else lt (K_execute (x + 1) ((x + 515) + 6 + 2 * i) (tn (I (x + 515 + 6 + 2 * i) 0)) I) (fun (r4 : Bool × ow_I) => if r4.1 then A_runScript_L53 x n r4.2 (i + 1) else (0, nI i, r4.2))
def A_runScript (x : Nat) (I : ow_I) : Nat × Int32 × ow_I :=
  lt (Q_readScript (x + 515) (I (x + 1) 8) I) (fun (r1 : Bool × ow_I) => lt (ow_u r1.2 ((x + 515) + 1) 1 (nI 0)) (fun (I2 : ow_I) => if r1.1 then lt (H_remember (x + 103) (x + 1) I2) (fun (I3 : ow_I) => A_runScript_L53 x 21 I3 0) else (1, 0, I2)))
set_option maxRecDepth 100000 in
set_option maxHeartbeats 400000 in
theorem cA_runScript {Z : Nat → Nat} {S : Nat → Option ow_Sh} {I : ow_I} {V : Nat → Nat → Value} {z : Nat} {x : Nat} {V0 : Nat → Nat → Value} (h_x : au_S S x) (hX : au_V x I) (hC : cm_V (x + 515) I) (hW : V = ve_f Z (x + 515) I V0) : ow_Cx Z yX10_runScript cX10_runScript 3 (some .int) 9 1 6 [.ref x] (S, I, V, z) (ox_s S (ve_f Z (x + 515) ((A_runScript x I).2.2) V0) z ((A_runScript x I).1) (some (.int ((A_runScript x I).2.1))) ((A_runScript x I).2.2)) := by
  refine ow_Cx.off rfl (Nat.le_of_ble_eq_true rfl) (fun X K E G F hk => ?_)
  have E : ow_E X RX10 cX10_runScript 3 (ow_rm 9 1 6) := E
  refine or_lv [(0, .ref x)] rfl ?_
  have L53 : ∀ (n : Nat) (I : ow_I) (V : Nat → Nat → Value) (i : Nat) (hV : k_V (x + 1) I) (hC : cm_V (x + 515) I) (hW : V = ve_f Z (x + 515) I V0) (hi : i ≤ 20) (hm : 20 - i < n) (hk : ox_e K S (ve_f Z (x + 515) ((A_runScript_L53 x n I i).2.2) V0) z ((A_runScript_L53 x n I i).1) (some (.int ((A_runScript_L53 x n I i).2.1))) ((A_runScript_L53 x n I i).2.2)), ow_W X 0 0 (S, I, V, z) 53 [(0, .ref x), (2, .int (nI i))] [] := by
    intro n
    induction n with
    | zero => intro I V i hV hC hW hi hm; omega
    | succ n ih =>
      intro I V i hV hC hW hi hm hk
      dsimp only [A_runScript_L53] at hk
      have h20 := hC.2.1.2
      refine or_iload_n E rfl dX10_runScript_53 ?_
      refine or_aload_n E rfl dX10_runScript_54 ?_
      refine ot_getC E fl_10_37 dX10_runScript_55 h_x.1 rfl ?_
      refine ot_getI E fl_10_116 dX10_runScript_58 h_x.2.2.2.2.2.2.1.1 rfl ?_
      refine or_top (nI_tn hC.2.1.1).symm ?_
      refine or_icmp_geN 89 E dX10_runScript_61 rfl (by omega) (by omega) (fun q61 => ?_) (fun q61 => ?_)
      · replace hk := ite_p (P := fun r : Nat × Int32 × ow_I => ox_e K S (ve_f Z (x + 515) ((r).2.2) V0) z ((r).1) (some (.int ((r).2.1))) ((r).2.2)) q61 hk
        refine or_iload_n E rfl dX10_runScript_89 ?_
        refine or_heap (ow_hV (V2 := (ve_f Z (x + 515) I V0)) (by first | exact hW | exact (hW.trans (ve_eq (fun k hk2 => by rw [rr_exec (by omega) hV])).symm))) ?_
        try dsimp only at hk
        exact or_xr E F (fun X' E' F' => or_iret E' F' dX10_runScript_90 (Nat.le_of_ble_eq_true rfl) (Nat.le_of_ble_eq_true rfl) (hk.1 rfl))
      · replace hk := ite_n (P := fun r : Nat × Int32 × ow_I => ox_e K S (ve_f Z (x + 515) ((r).2.2) V0) z ((r).1) (some (.int ((r).2.1))) ((r).2.2)) q61 hk
        refine or_aload_n E rfl dX10_runScript_64 ?_
        refine ot_getC E fl_10_10 dX10_runScript_65 h_x.1 rfl ?_
        refine or_aload_n E rfl dX10_runScript_68 ?_
        refine ot_getC E fl_10_37 dX10_runScript_69 h_x.1 rfl ?_
        refine ot_getC E fl_10_119 dX10_runScript_72 h_x.2.2.2.2.2.2.1.1 rfl ?_
        refine or_iload_n E rfl dX10_runScript_75 ?_
        refine ot_aald (j := i) E dX10_runScript_76 h_x.2.2.2.2.2.2.1.2.2.1 rfl rfl (by have h9 := hC.2.1.2; omega) (Nat.le_of_ble_eq_true rfl) ?_
        refine or_fV1r (cK_execute (Z := Z)  h_x.2.1 (h_x.2.2.2.2.2.2.1.2.2.2.2 i (by have h9 := hC.2.1.2; omega)) (fun n => kV_it n _ hV) (by rw [hW]; exact ve_at (by have h9 := hC.2.1.2; omega) (cm_j hC (show i < 20 by have h9 := hC.2.1.2; omega)).1 (cm_j hC (show i < 20 by have h9 := hC.2.1.2; omega)).2) (cm_j hC (show i < 20 by have h9 := hC.2.1.2; omega)).1 (hC.2.2 i (by have h9 := hC.2.1.2; omega)).2.1 (hC.2.2 i (by have h9 := hC.2.1.2; omega)).2.2) E G F lk_10_123 dX10_runScript_77 h_x.2.1.1 rfl rfl (by decide) (by decide) ⟨(Nat.le_of_ble_eq_true rfl), (Nat.le_of_ble_eq_true rfl)⟩ (Nat.le_of_ble_eq_true rfl) (fun _ => ?_) (fun h => absurd h (Nat.lt_irrefl 0))
        obtain ⟨r4, hr4⟩ : ∃ y_ : Bool × ow_I, y_ = K_execute (x + 1) ((x + 515) + 6 + 2 * i) (tn (I (x + 515 + 6 + 2 * i) 0)) I := ⟨_, rfl⟩
        replace hk := lt_k (P := fun r : Nat × Int32 × ow_I => ox_e K S (ve_f Z (x + 515) ((r).2.2) V0) z ((r).1) (some (.int ((r).2.1))) ((r).2.2)) hr4 hk
        refine or_nmZ hr4 ?_
        refine or_if_eqZ 89 E dX10_runScript_80 rfl (fun q80 => ?_) (fun q80 => ?_)
        · replace hk := ite_n (P := fun r : Nat × Int32 × ow_I => ox_e K S (ve_f Z (x + 515) ((r).2.2) V0) z ((r).1) (some (.int ((r).2.1))) ((r).2.2)) (bz_neg q80) hk
          refine or_iload_n E rfl dX10_runScript_89 ?_
          refine or_heap (ow_hV (V2 := (ve_f Z (x + 515) r4.2 V0)) (by subst hr4; first | exact hW | exact (hW.trans (ve_eq (fun k hk2 => by rw [rr_exec (by omega) hV])).symm))) ?_
          try dsimp only at hk
          exact or_xr E F (fun X' E' F' => or_iret E' F' dX10_runScript_90 (Nat.le_of_ble_eq_true rfl) (Nat.le_of_ble_eq_true rfl) (hk.1 rfl))
        · replace hk := ite_p (P := fun r : Nat × Int32 × ow_I => ox_e K S (ve_f Z (x + 515) ((r).2.2) V0) z ((r).1) (some (.int ((r).2.1))) ((r).2.2)) q80 hk
          refine or_iincN (c := 1) E dX10_runScript_83 rfl rfl (by decide) ?_
          refine or_goto 53 E dX10_runScript_86 rfl ?_
          refine or_lv _ ?_ (ih _ _ _ (by subst hr4; exact (kV_exec hV)) (by subst hr4; exact (cm_exec hV hC)) (by subst hr4; exact (hW.trans (ve_eq (fun k hk2 => by rw [rr_exec (by omega) hV])).symm)) (by subst hr4; omega) (by subst hr4; omega) hk)
          rfl
  try dsimp only [A_runScript] at hk
  refine or_aload_n E rfl dX10_runScript_0 ?_
  refine ot_getC E fl_10_37 dX10_runScript_1 h_x.1 rfl ?_
  refine or_aload_n E rfl dX10_runScript_4 ?_
  refine ot_getC E fl_10_10 dX10_runScript_5 h_x.1 rfl ?_
  refine ot_getI E fl_10_107 dX10_runScript_8 h_x.2.1.1 rfl ?_
  refine or_fV1r (cQ_readScript (Z := Z)  h_x.2.2.2.2.2.2.1 hX.2.2.2.2.2 hW) E G F lk_10_110 dX10_runScript_11 h_x.2.2.2.2.2.2.1.1 rfl rfl (by decide) (by decide) ⟨(Nat.le_of_ble_eq_true rfl), (Nat.le_of_ble_eq_true rfl)⟩ (Nat.le_of_ble_eq_true rfl) (fun _ => ?_) (fun h => absurd h (Nat.lt_irrefl 0))
  obtain ⟨r1, hr1⟩ : ∃ y_ : Bool × ow_I, y_ = Q_readScript (x + 515) (I (x + 1) 8) I := ⟨_, rfl⟩
  replace hk := lt_k (P := fun r : Nat × Int32 × ow_I => ox_e K S (ve_f Z (x + 515) ((r).2.2) V0) z ((r).1) (some (.int ((r).2.1))) ((r).2.2)) hr1 hk
  refine or_nmZ hr1 ?_
  refine or_istore_n E dX10_runScript_14 (by decide) ?_
  refine or_aload_n E rfl dX10_runScript_15 ?_
  refine ot_getC E fl_10_37 dX10_runScript_16 h_x.1 rfl ?_
  refine ot_getC E fl_10_52 dX10_runScript_19 h_x.2.2.2.2.2.2.1.1 rfl ?_
  refine or_iconst (v := nI 0) E rfl dX10_runScript_22 ?_
  refine ot_putI E fl_10_68 fw_5_1 dX10_runScript_23 h_x.2.2.2.2.2.2.1.2.1.1 rfl ?_
  obtain ⟨I2, hI2⟩ : ∃ y_ : ow_I, y_ = ow_u r1.2 ((x + 515) + 1) 1 (nI 0) := ⟨_, rfl⟩
  replace hk := lt_k (P := fun r : Nat × Int32 × ow_I => ox_e K S (ve_f Z (x + 515) ((r).2.2) V0) z ((r).1) (some (.int ((r).2.1))) ((r).2.2)) hI2 hk
  refine or_nmI hI2 ?_
  refine or_iload_n E rfl dX10_runScript_26 ?_
  refine or_if_neZ 40 E dX10_runScript_27 rfl (fun q27 => ?_) (fun q27 => ?_)
  · replace hk := ite_p (P := fun r : Nat × Int32 × ow_I => ox_e K S (ve_f Z (x + 515) ((r).2.2) V0) z ((r).1) (some (.int ((r).2.1))) ((r).2.2)) q27 hk
    refine or_aload_n E rfl dX10_runScript_40 ?_
    refine ot_getC E fl_10_22 dX10_runScript_41 h_x.1 rfl ?_
    refine or_aload_n E rfl dX10_runScript_44 ?_
    refine ot_getC E fl_10_10 dX10_runScript_45 h_x.1 rfl ?_
    refine or_cV1v (cH_remember  h_x.2.2.2.1 h_x.2.1 (by subst hI2 hr1; omega) (by subst hI2 hr1; exact (au_sc hX).2.2.2.2.1.1) (by subst hI2 hr1; exact (au_sc hX).2.2.2.2.1.2) (by subst hI2 hr1; exact (au_sc hX).1.1.1) (by subst hI2 hr1; exact (au_sc hX).1.1.2) (by subst hI2 hr1; exact (au_sc hX).1.2.1.1) (by subst hI2 hr1; exact (au_sc hX).1.2.1.2)) E lk_10_97 dX10_runScript_48 h_x.2.2.2.1.1 rfl rfl (by decide) (by decide) ⟨(Nat.le_of_ble_eq_true rfl), (Nat.le_of_ble_eq_true rfl)⟩ (Nat.le_of_ble_eq_true rfl) ?_
    obtain ⟨I3, hI3⟩ : ∃ y_ : ow_I, y_ = H_remember (x + 103) (x + 1) I2 := ⟨_, rfl⟩
    replace hk := lt_k (P := fun r : Nat × Int32 × ow_I => ox_e K S (ve_f Z (x + 515) ((r).2.2) V0) z ((r).1) (some (.int ((r).2.1))) ((r).2.2)) hI3 hk
    refine or_nmI hI3 ?_
    refine or_iconst (v := nI 0) E rfl dX10_runScript_51 ?_
    refine or_istore_n E dX10_runScript_52 (by decide) ?_
    refine or_lv _ ?_ (L53 21 _ _ _ (by subst hI3 hI2 hr1; exact (kV_rem (au_sc hX))) (by subst hI3 hI2 hr1; exact (cm_rem (au_sc hX) (cm_sc hC))) (by subst hI3 hI2 hr1; exact ((ve_eq (fun k hk2 => by rw [rr_rem (au_sc hX) (by omega), rr_u (by omega)])).symm)) (by decide) (by decide) hk)
    rfl
  · replace hk := ite_n (P := fun r : Nat × Int32 × ow_I => ox_e K S (ve_f Z (x + 515) ((r).2.2) V0) z ((r).1) (some (.int ((r).2.1))) ((r).2.2)) (bz_neg q27) hk
    refine or_heap (ow_hV (V2 := (ve_f Z (x + 515) I2 V0)) (by subst hI2 hr1; exact ((ve_eq (fun k hk2 => by rw [rr_u (by omega)])).symm))) ?_
    try dsimp only at hk
    exact or_throwS E G F tw_10_92_96 (by decide) (og_12 G 7 rfl) dX10_runScript_30 dX10_runScript_33 dX10_runScript_34 dX10_runScript_36 dX10_runScript_39 (by decide) (Nat.le_of_ble_eq_true rfl) (Nat.le_of_ble_eq_true rfl) (Nat.le_of_ble_eq_true rfl) (hk.2 (by decide))
