theorem rdPB {m b w : Nat} {x : Int32} {I : ow_I} {a j : Nat} (h : j < 66) : M_putBarrel m b w x I a j = I a j := ow_u_k _ _ _ _ (by omega) _
theorem rdPu {m b w : Nat} {x : Int32} {I : ow_I} {a j : Nat} (h : j < 36) : M_put m b w x I a j = I a j := ow_u_k _ _ _ _ (by omega) _
theorem n64_of {r : UInt64} (h : Jvm.FP.Core.dIsNaN r = false) : vf_n64 r := by
  unfold vf_n64
  have h1 : ¬ 9218868437227405312 < r.toNat % 2 ^ 63 := fun h2 => by
    have := (Jvm.FP.Core.isNaN_bits r).mpr h2
    rw [h] at this
    exact absurd this (by decide)
  rw [UInt64.le_iff_toNat_le, UInt64.toNat_and, show (0x7fffffffffffffff : UInt64).toNat = 2 ^ 63 - 1 by decide, show (0x7ff0000000000000 : UInt64).toNat = 9218868437227405312 by decide, Nat.and_two_pow_sub_one_eq_mod]
  omega
theorem n32_of {r : UInt32} (h : Jvm.FP.Core.fIsNaN r = false) : vf_n32 r := by
  unfold vf_n32
  have h1 : ¬ 2139095040 < r.toNat % 2 ^ 31 := fun h2 => by
    have := (Jvm.FP.Core.isNaN_bits32 r).mpr h2
    rw [h] at this
    exact absurd this (by decide)
  rw [UInt32.le_iff_toNat_le, UInt32.toNat_and, show (0x7fffffff : UInt32).toNat = 2 ^ 31 - 1 by decide, show (0x7f800000 : UInt32).toNat = 2139095040 by decide, Nat.and_two_pow_sub_one_eq_mod]
  omega
theorem fp_dd {x y : Int32} (h : ¬ y = 0) : vf_n64 (FP.ddiv (FP.i2d x) (FP.i2d y)) :=
  n64_of (Jvm.FP.Core.ddiv_out (a := Jvm.FP.Core.i2d x) (b := Jvm.FP.Core.i2d y) (Jvm.FP.Core.i2d_fin x).notNaN (Jvm.FP.Core.i2d_fin y) (fun hz => Jvm.FP.Core.i2d_ne_zero h ((Jvm.FP.Core.zero_bits2 _).mp hz)))
theorem fp_ff {x y : Int32} (h : ¬ y = 0) : vf_n32 (FP.fdiv (FP.i2f x) (FP.i2f y)) :=
  n32_of (Jvm.FP.Core.fdiv_out (a := Jvm.FP.Core.i2f x) (b := Jvm.FP.Core.i2f y) (Jvm.FP.Core.i2f_fin x).notNaN (Jvm.FP.Core.i2f_fin y) (fun hz => Jvm.FP.Core.i2f_ne_zero h ((Jvm.FP.Core.zero_bits232 _).mp hz)))
theorem fp_i2d_div100 (x : Int32) : vf_n64 (FP.ddiv (FP.i2d x) (4636737291354636288 : UInt64)) := by
  rw [show (4636737291354636288 : UInt64) = FP.i2d 100 by decide +kernel]
  exact fp_dd (by decide)
theorem fp_i2d_div10 (x : Int32) : vf_n64 (FP.ddiv (FP.i2d x) (4621819117588971520 : UInt64)) := by
  rw [show (4621819117588971520 : UInt64) = FP.i2d 10 by decide +kernel]
  exact fp_dd (by decide)
theorem fp_i2d_div5 (x : Int32) : vf_n64 (FP.ddiv (FP.i2d x) (4617315517961601024 : UInt64)) := by
  rw [show (4617315517961601024 : UInt64) = FP.i2d 5 by decide +kernel]
  exact fp_dd (by decide)
theorem lk_11_70 : ow_lv RX11 70 yX11_put cX11_put 4 none 3 := ⟨ow_T_in 1611 (by decide +kernel) (by decide +kernel), ow_T_in 1613 (by decide +kernel) (by decide +kernel), ow_T_sel 37 (by decide +kernel) (by decide +kernel), ow_T_in 19 (by decide +kernel) (by decide +kernel), ow_T_in 1614 (by decide +kernel) (by decide +kernel), ⟨by decide +kernel, by decide +kernel, by decide +kernel⟩⟩
theorem lk_11_73 : ow_lv RX11 73 yX11_putBarrel cX11_putBarrel 4 none 3 := ⟨ow_T_in 1619 (by decide +kernel) (by decide +kernel), ow_T_in 1621 (by decide +kernel) (by decide +kernel), ow_T_sel 39 (by decide +kernel) (by decide +kernel), ow_T_in 19 (by decide +kernel) (by decide +kernel), ow_T_in 1622 (by decide +kernel) (by decide +kernel), ⟨by decide +kernel, by decide +kernel, by decide +kernel⟩⟩
theorem lk_11_76 : ow_lv RX11 76 yX11_enqueue cX11_enqueue 2 none 1 := ⟨ow_T_in 1623 (by decide +kernel) (by decide +kernel), ow_T_in 1625 (by decide +kernel) (by decide +kernel), ow_T_sel 40 (by decide +kernel) (by decide +kernel), ow_T_in 19 (by decide +kernel) (by decide +kernel), ow_T_in 1626 (by decide +kernel) (by decide +kernel), ⟨by decide +kernel, by decide +kernel, by decide +kernel⟩⟩
theorem lk_11_80 : ow_lv RX11 80 yX11_lengthOf cX11_lengthOf 3 (some .int) 2 := ⟨ow_T_in 1900 (by decide +kernel) (by decide +kernel), ow_T_in 1902 (by decide +kernel) (by decide +kernel), ow_T_sel 85 (by decide +kernel) (by decide +kernel), ow_T_in 19 (by decide +kernel) (by decide +kernel), ow_T_in 1903 (by decide +kernel) (by decide +kernel), ⟨by decide +kernel, by decide +kernel, by decide +kernel⟩⟩
theorem lk_11_83 : ow_lv RX11 83 yX11_shorterThan cX11_shorterThan 5 (some .int) 2 := ⟨ow_T_in 1975 (by decide +kernel) (by decide +kernel), ow_T_in 1977 (by decide +kernel) (by decide +kernel), ow_T_sel 103 (by decide +kernel) (by decide +kernel), ow_T_in 19 (by decide +kernel) (by decide +kernel), ow_T_in 1978 (by decide +kernel) (by decide +kernel), ⟨by decide +kernel, by decide +kernel, by decide +kernel⟩⟩
theorem lk_11_86 : ow_lv RX11 86 yX11_of cX11_of 3 (some .int) 2 := ⟨ow_T_in 1861 (by decide +kernel) (by decide +kernel), ow_T_in 1863 (by decide +kernel) (by decide +kernel), ow_T_sel 76 (by decide +kernel) (by decide +kernel), ow_T_in 19 (by decide +kernel) (by decide +kernel), ow_T_in 1864 (by decide +kernel) (by decide +kernel), ⟨by decide +kernel, by decide +kernel, by decide +kernel⟩⟩
theorem lk_11_89 : ow_lv RX11 89 yX11_totalOf cX11_totalOf 4 (some .int) 1 := ⟨ow_T_in 1965 (by decide +kernel) (by decide +kernel), ow_T_in 1967 (by decide +kernel) (by decide +kernel), ow_T_sel 101 (by decide +kernel) (by decide +kernel), ow_T_in 19 (by decide +kernel) (by decide +kernel), ow_T_in 1968 (by decide +kernel) (by decide +kernel), ⟨by decide +kernel, by decide +kernel, by decide +kernel⟩⟩
theorem lk_11_96 : ow_lv RX11 96 yX11_greatestOf cX11_greatestOf 4 (some .int) 1 := ⟨ow_T_in 1971 (by decide +kernel) (by decide +kernel), ow_T_in 1973 (by decide +kernel) (by decide +kernel), ow_T_sel 102 (by decide +kernel) (by decide +kernel), ow_T_in 19 (by decide +kernel) (by decide +kernel), ow_T_in 1974 (by decide +kernel) (by decide +kernel), ⟨by decide +kernel, by decide +kernel, by decide +kernel⟩⟩
theorem lk_11_101 : ow_lv RX11 101 yX11_isOpenIn cX11_isOpenIn 2 (some .boolean) 1 := ⟨ow_T_in 1857 (by decide +kernel) (by decide +kernel), ow_T_in 1859 (by decide +kernel) (by decide +kernel), ow_T_sel 75 (by decide +kernel) (by decide +kernel), ow_T_in 19 (by decide +kernel) (by decide +kernel), ow_T_in 1860 (by decide +kernel) (by decide +kernel), ⟨by decide +kernel, by decide +kernel, by decide +kernel⟩⟩
theorem lk_11_105 : ow_lv RX11 105 yX11_isOpenNow cX11_isOpenNow 1 (some .boolean) 0 := ⟨ow_T_in 1853 (by decide +kernel) (by decide +kernel), ow_T_in 1855 (by decide +kernel) (by decide +kernel), ow_T_sel 74 (by decide +kernel) (by decide +kernel), ow_T_in 19 (by decide +kernel) (by decide +kernel), ow_T_in 1856 (by decide +kernel) (by decide +kernel), ⟨by decide +kernel, by decide +kernel, by decide +kernel⟩⟩
theorem lk_11_109 : ow_lv RX11 109 yX11_bidNext cX11_bidNext 1 (some .int) 0 := ⟨ow_T_in 1865 (by decide +kernel) (by decide +kernel), ow_T_in 1867 (by decide +kernel) (by decide +kernel), ow_T_sel 77 (by decide +kernel) (by decide +kernel), ow_T_in 19 (by decide +kernel) (by decide +kernel), ow_T_in 1868 (by decide +kernel) (by decide +kernel), ⟨by decide +kernel, by decide +kernel, by decide +kernel⟩⟩
theorem lk_11_113 : ow_lv RX11 113 yX11_costOfPrice cX11_costOfPrice 2 (some .int) 1 := ⟨ow_T_in 1869 (by decide +kernel) (by decide +kernel), ow_T_in 1871 (by decide +kernel) (by decide +kernel), ow_T_sel 78 (by decide +kernel) (by decide +kernel), ow_T_in 19 (by decide +kernel) (by decide +kernel), ow_T_in 1872 (by decide +kernel) (by decide +kernel), ⟨by decide +kernel, by decide +kernel, by decide +kernel⟩⟩
theorem wd_1969 : Cond.constantDouble RX11 92 (4636737291354636288 : UInt64) ∈ ow_T := ow_T_in 1969 (by decide +kernel) (by decide +kernel)
theorem wd_1970 : Cond.constantDouble RX11 94 (4621819117588971520 : UInt64) ∈ ow_T := ow_T_in 1970 (by decide +kernel) (by decide +kernel)
theorem wd_1979 : Cond.constantDouble RX11 99 (4617315517961601024 : UInt64) ∈ ow_T := ow_T_in 1979 (by decide +kernel) (by decide +kernel)
def M_addBuyer (m : Nat) (p : Int32) (s : Int32) (f : Int32) (I : ow_I) : ow_I :=
  lt (M_put m (tn (I (m + 1) 6)) 0 p I) (fun (I1 : ow_I) => lt (M_put m (tn (I (m + 1) 6)) 1 s I1) (fun (I2 : ow_I) => lt (M_put m (tn (I (m + 1) 6)) 2 f I2) (fun (I3 : ow_I) => lt (M_put m (tn (I (m + 1) 6)) 3 (nI 0) I3) (fun (I4 : ow_I) => lt (M_put m (tn (I (m + 1) 6)) 4 (nI 0) I4) (fun (I5 : ow_I) => lt (ow_u I5 (m + 1) 15 (I5 (m + 1) 15 + p)) (fun (I6 : ow_I) => lt (ow_u I6 (m + 1) 6 (I6 (m + 1) 6 + (nI 1))) (fun (I7 : ow_I) => I7)))))))
set_option maxRecDepth 100000 in
set_option maxHeartbeats 400000 in
theorem cM_addBuyer {S : Nat → Option ow_Sh} {I : ow_I} {V : Nat → Nat → Value} {z : Nat} {m : Nat} {p : Int32} {s : Int32} {f : Int32} (h_m : md_S S m) (h6 : 0 ≤ I (m + 1) 6) (h6b : tn (I (m + 1) 6) < 6) : ow_Cf yX11_addBuyer cX11_addBuyer 5 none 1 [.ref m, .int p, .int s, .int f] (S, I, V, z) none (S, M_addBuyer m p s f I, V, z) := by
  refine ow_Cf.of rfl (Nat.le_of_ble_eq_true rfl) (fun X K E F hk => ?_)
  have E : ow_E X RX11 cX11_addBuyer 5 (ow_rm 1 0 0) := E
  refine or_lv [(0, .ref m), (1, .int p), (2, .int s), (3, .int f)] rfl ?_
  dsimp only [M_addBuyer] at hk
  refine or_aload_n E rfl dX11_addBuyer_0 ?_
  refine ot_getC E fl_11_7 dX11_addBuyer_1 h_m.1 rfl ?_
  refine or_bipush (v := nI 6) E rfl dX11_addBuyer_4 ?_
  refine ot_iald (j := 6) E dX11_addBuyer_6 h_m.2.1 rfl rfl (by omega) (Nat.le_of_ble_eq_true rfl) ?_
  refine or_top (nI_tn h6).symm ?_
  refine or_istore E dX11_addBuyer_7 (by decide) ?_
  refine or_aload_n E rfl dX11_addBuyer_9 ?_
  refine or_iload E rfl dX11_addBuyer_10 ?_
  refine or_iconst (v := nI 0) E rfl dX11_addBuyer_12 ?_
  refine or_iload_n E rfl dX11_addBuyer_13 ?_
  refine or_cV3v (cM_put  h_m (by omega)) E lk_11_70 dX11_addBuyer_14 h_m.1 rfl rfl (by decide) (by decide) ⟨Nat.le_refl _, Nat.le_refl _⟩ (Nat.le_of_ble_eq_true rfl) ?_
  obtain ⟨I1, hI1⟩ : ∃ y_ : ow_I, y_ = M_put m (tn (I (m + 1) 6)) 0 p I := ⟨_, rfl⟩
  replace hk := lt_k (P := fun r : ow_I => K none (S, r, V, z)) hI1 hk
  refine or_nmI hI1 ?_
  refine or_aload_n E rfl dX11_addBuyer_17 ?_
  refine or_iload E rfl dX11_addBuyer_18 ?_
  refine or_iconst (v := nI 1) E rfl dX11_addBuyer_20 ?_
  refine or_iload_n E rfl dX11_addBuyer_21 ?_
  refine or_cV3v (cM_put  h_m (by omega)) E lk_11_70 dX11_addBuyer_22 h_m.1 rfl rfl (by decide) (by decide) ⟨Nat.le_refl _, Nat.le_refl _⟩ (Nat.le_of_ble_eq_true rfl) ?_
  obtain ⟨I2, hI2⟩ : ∃ y_ : ow_I, y_ = M_put m (tn (I (m + 1) 6)) 1 s I1 := ⟨_, rfl⟩
  replace hk := lt_k (P := fun r : ow_I => K none (S, r, V, z)) hI2 hk
  refine or_nmI hI2 ?_
  refine or_aload_n E rfl dX11_addBuyer_25 ?_
  refine or_iload E rfl dX11_addBuyer_26 ?_
  refine or_iconst (v := nI 2) E rfl dX11_addBuyer_28 ?_
  refine or_iload_n E rfl dX11_addBuyer_29 ?_
  refine or_cV3v (cM_put  h_m (by omega)) E lk_11_70 dX11_addBuyer_30 h_m.1 rfl rfl (by decide) (by decide) ⟨Nat.le_refl _, Nat.le_refl _⟩ (Nat.le_of_ble_eq_true rfl) ?_
  obtain ⟨I3, hI3⟩ : ∃ y_ : ow_I, y_ = M_put m (tn (I (m + 1) 6)) 2 f I2 := ⟨_, rfl⟩
  replace hk := lt_k (P := fun r : ow_I => K none (S, r, V, z)) hI3 hk
  refine or_nmI hI3 ?_
  refine or_aload_n E rfl dX11_addBuyer_33 ?_
  refine or_iload E rfl dX11_addBuyer_34 ?_
  refine or_iconst (v := nI 3) E rfl dX11_addBuyer_36 ?_
  refine or_iconst (v := nI 0) E rfl dX11_addBuyer_37 ?_
  refine or_cV3v (cM_put  h_m (by omega)) E lk_11_70 dX11_addBuyer_38 h_m.1 rfl rfl (by decide) (by decide) ⟨Nat.le_refl _, Nat.le_refl _⟩ (Nat.le_of_ble_eq_true rfl) ?_
  obtain ⟨I4, hI4⟩ : ∃ y_ : ow_I, y_ = M_put m (tn (I (m + 1) 6)) 3 (nI 0) I3 := ⟨_, rfl⟩
  replace hk := lt_k (P := fun r : ow_I => K none (S, r, V, z)) hI4 hk
  refine or_nmI hI4 ?_
  refine or_aload_n E rfl dX11_addBuyer_41 ?_
  refine or_iload E rfl dX11_addBuyer_42 ?_
  refine or_iconst (v := nI 4) E rfl dX11_addBuyer_44 ?_
  refine or_iconst (v := nI 0) E rfl dX11_addBuyer_45 ?_
  refine or_cV3v (cM_put  h_m (by omega)) E lk_11_70 dX11_addBuyer_46 h_m.1 rfl rfl (by decide) (by decide) ⟨Nat.le_refl _, Nat.le_refl _⟩ (Nat.le_of_ble_eq_true rfl) ?_
  obtain ⟨I5, hI5⟩ : ∃ y_ : ow_I, y_ = M_put m (tn (I (m + 1) 6)) 4 (nI 0) I4 := ⟨_, rfl⟩
  replace hk := lt_k (P := fun r : ow_I => K none (S, r, V, z)) hI5 hk
  refine or_nmI hI5 ?_
  refine or_aload_n E rfl dX11_addBuyer_49 ?_
  refine ot_getC E fl_11_7 dX11_addBuyer_50 h_m.1 rfl ?_
  refine or_bipush (v := nI 15) E rfl dX11_addBuyer_53 ?_
  refine or_dup2 E rfl rfl dX11_addBuyer_55 ?_
  refine ot_iald (j := 15) E dX11_addBuyer_56 h_m.2.1 rfl rfl (by omega) (Nat.le_of_ble_eq_true rfl) ?_
  refine or_iload_n E rfl dX11_addBuyer_57 ?_
  refine or_iadd E dX11_addBuyer_58 ?_
  refine ot_iast (j := 15) E dX11_addBuyer_59 h_m.2.1 rfl rfl (by omega) (Nat.le_of_ble_eq_true rfl) ?_
  obtain ⟨I6, hI6⟩ : ∃ y_ : ow_I, y_ = ow_u I5 (m + 1) 15 (I5 (m + 1) 15 + p) := ⟨_, rfl⟩
  replace hk := lt_k (P := fun r : ow_I => K none (S, r, V, z)) hI6 hk
  refine or_nmI hI6 ?_
  refine or_aload_n E rfl dX11_addBuyer_60 ?_
  refine ot_getC E fl_11_7 dX11_addBuyer_61 h_m.1 rfl ?_
  refine or_bipush (v := nI 6) E rfl dX11_addBuyer_64 ?_
  refine or_dup2 E rfl rfl dX11_addBuyer_66 ?_
  refine ot_iald (j := 6) E dX11_addBuyer_67 h_m.2.1 rfl rfl (by omega) (Nat.le_of_ble_eq_true rfl) ?_
  refine or_iconst (v := nI 1) E rfl dX11_addBuyer_68 ?_
  refine or_iadd E dX11_addBuyer_69 ?_
  refine ot_iast (j := 6) E dX11_addBuyer_70 h_m.2.1 rfl rfl (by omega) (Nat.le_of_ble_eq_true rfl) ?_
  obtain ⟨I7, hI7⟩ : ∃ y_ : ow_I, y_ = ow_u I6 (m + 1) 6 (I6 (m + 1) 6 + (nI 1)) := ⟨_, rfl⟩
  replace hk := lt_k (P := fun r : ow_I => K none (S, r, V, z)) hI7 hk
  refine or_nmI hI7 ?_
  exact or_vret E F dX11_addBuyer_71 (Nat.le_refl _) (Nat.le_refl _) hk
def M_enqueue (m : Nat) (b : Nat) (I : ow_I) : ow_I :=
  lt (M_putBarrel m b 12 (nI 0) I) (fun (I1 : ow_I) => lt (ow_u I1 (m + 1) (16 + (tn (I (m + 1) 12))) (nI b)) (fun (I2 : ow_I) => lt (ow_u I2 (m + 1) 12 (I2 (m + 1) 12 + (nI 1))) (fun (I3 : ow_I) => I3)))
set_option maxRecDepth 100000 in
set_option maxHeartbeats 400000 in
theorem cM_enqueue {S : Nat → Option ow_Sh} {I : ow_I} {V : Nat → Nat → Value} {z : Nat} {m : Nat} {b : Nat} (h_m : md_S S m) (hb : b < 20) (h12 : 0 ≤ I (m + 1) 12) (h12b : tn (I (m + 1) 12) < 20) : ow_Cf yX11_enqueue cX11_enqueue 2 none 1 [.ref m, .int (nI b)] (S, I, V, z) none (S, M_enqueue m b I, V, z) := by
  refine ow_Cf.of rfl (Nat.le_of_ble_eq_true rfl) (fun X K E F hk => ?_)
  have E : ow_E X RX11 cX11_enqueue 2 (ow_rm 1 0 0) := E
  refine or_lv [(0, .ref m), (1, .int (nI b))] rfl ?_
  dsimp only [M_enqueue] at hk
  refine or_aload_n E rfl dX11_enqueue_0 ?_
  refine or_iload_n E rfl dX11_enqueue_1 ?_
  refine or_bipush (v := nI 12) E rfl dX11_enqueue_2 ?_
  refine or_iconst (v := nI 0) E rfl dX11_enqueue_4 ?_
  refine or_cV3v (cM_putBarrel  h_m (by omega)) E lk_11_73 dX11_enqueue_5 h_m.1 rfl rfl (by decide) (by decide) ⟨Nat.le_refl _, Nat.le_refl _⟩ (Nat.le_of_ble_eq_true rfl) ?_
  obtain ⟨I1, hI1⟩ : ∃ y_ : ow_I, y_ = M_putBarrel m b 12 (nI 0) I := ⟨_, rfl⟩
  replace hk := lt_k (P := fun r : ow_I => K none (S, r, V, z)) hI1 hk
  refine or_nmI hI1 ?_
  refine or_aload_n E rfl dX11_enqueue_8 ?_
  refine ot_getC E fl_11_7 dX11_enqueue_9 h_m.1 rfl ?_
  refine or_bipush (v := nI 16) E rfl dX11_enqueue_12 ?_
  refine or_aload_n E rfl dX11_enqueue_14 ?_
  refine ot_getC E fl_11_7 dX11_enqueue_15 h_m.1 rfl ?_
  refine or_bipush (v := nI 12) E rfl dX11_enqueue_18 ?_
  refine ot_iald (j := 12) E dX11_enqueue_20 h_m.2.1 rfl rfl (by omega) (Nat.le_of_ble_eq_true rfl) ?_
  refine or_top (y := nI (tn (I (m + 1) 12))) (by subst hI1; rw [rdPB (by omega), nI_tn h12]) ?_
  refine or_iaddN E dX11_enqueue_21 ?_
  refine or_iload_n E rfl dX11_enqueue_22 ?_
  refine ot_iast (j := 16 + (tn (I (m + 1) 12))) E dX11_enqueue_23 h_m.2.1 rfl rfl (by omega) (Nat.le_of_ble_eq_true rfl) ?_
  obtain ⟨I2, hI2⟩ : ∃ y_ : ow_I, y_ = ow_u I1 (m + 1) (16 + (tn (I (m + 1) 12))) (nI b) := ⟨_, rfl⟩
  replace hk := lt_k (P := fun r : ow_I => K none (S, r, V, z)) hI2 hk
  refine or_nmI hI2 ?_
  refine or_aload_n E rfl dX11_enqueue_24 ?_
  refine ot_getC E fl_11_7 dX11_enqueue_25 h_m.1 rfl ?_
  refine or_bipush (v := nI 12) E rfl dX11_enqueue_28 ?_
  refine or_dup2 E rfl rfl dX11_enqueue_30 ?_
  refine ot_iald (j := 12) E dX11_enqueue_31 h_m.2.1 rfl rfl (by omega) (Nat.le_of_ble_eq_true rfl) ?_
  refine or_iconst (v := nI 1) E rfl dX11_enqueue_32 ?_
  refine or_iadd E dX11_enqueue_33 ?_
  refine ot_iast (j := 12) E dX11_enqueue_34 h_m.2.1 rfl rfl (by omega) (Nat.le_of_ble_eq_true rfl) ?_
  obtain ⟨I3, hI3⟩ : ∃ y_ : ow_I, y_ = ow_u I2 (m + 1) 12 (I2 (m + 1) 12 + (nI 1)) := ⟨_, rfl⟩
  replace hk := lt_k (P := fun r : ow_I => K none (S, r, V, z)) hI3 hk
  refine or_nmI hI3 ?_
  exact or_vret E F dX11_enqueue_35 (Nat.le_refl _) (Nat.le_refl _) hk
def M_newBarrel (m : Nat) (r : Int32) (I : ow_I) : Nat × ow_I :=
  lt (M_putBarrel m (tn (I (m + 1) 7)) 0 (nI 0) I) (fun (I1 : ow_I) => lt (M_putBarrel m (tn (I (m + 1) 7)) 10 r I1) (fun (I2 : ow_I) => lt (M_putBarrel m (tn (I (m + 1) 7)) 11 (nI 0) I2) (fun (I3 : ow_I) => lt (M_putBarrel m (tn (I (m + 1) 7)) 13 ((-1)) I3) (fun (I4 : ow_I) => lt (M_putBarrel m (tn (I (m + 1) 7)) 14 ((-1)) I4) (fun (I5 : ow_I) => lt (ow_u I5 (m + 1) 7 (I5 (m + 1) 7 + (nI 1))) (fun (I6 : ow_I) => lt (M_enqueue m (tn (I (m + 1) 7)) I6) (fun (I7 : ow_I) => (tn (I (m + 1) 7), I7))))))))
set_option maxRecDepth 100000 in
set_option maxHeartbeats 400000 in
theorem cM_newBarrel {S : Nat → Option ow_Sh} {I : ow_I} {V : Nat → Nat → Value} {z : Nat} {m : Nat} {r : Int32} (h_m : md_S S m) (h7 : 0 ≤ I (m + 1) 7) (h7b : tn (I (m + 1) 7) < 20) (h12 : 0 ≤ I (m + 1) 12) (h12b : tn (I (m + 1) 12) < 20) : ow_Cf yX11_newBarrel cX11_newBarrel 3 (some .int) 2 [.ref m, .int r] (S, I, V, z) (some (.int (nI ((M_newBarrel m r I).1)))) (S, (M_newBarrel m r I).2, V, z) := by
  refine ow_Cf.of rfl (Nat.le_of_ble_eq_true rfl) (fun X K E F hk => ?_)
  have E : ow_E X RX11 cX11_newBarrel 3 (ow_rm 2 0 0) := E
  refine or_lv [(0, .ref m), (1, .int r)] rfl ?_
  dsimp only [M_newBarrel] at hk
  refine or_aload_n E rfl dX11_newBarrel_0 ?_
  refine ot_getC E fl_11_7 dX11_newBarrel_1 h_m.1 rfl ?_
  refine or_bipush (v := nI 7) E rfl dX11_newBarrel_4 ?_
  refine ot_iald (j := 7) E dX11_newBarrel_6 h_m.2.1 rfl rfl (by omega) (Nat.le_of_ble_eq_true rfl) ?_
  refine or_top (nI_tn h7).symm ?_
  refine or_istore_n E dX11_newBarrel_7 (by decide) ?_
  refine or_aload_n E rfl dX11_newBarrel_8 ?_
  refine or_iload_n E rfl dX11_newBarrel_9 ?_
  refine or_iconst (v := nI 0) E rfl dX11_newBarrel_10 ?_
  refine or_iconst (v := nI 0) E rfl dX11_newBarrel_11 ?_
  refine or_cV3v (cM_putBarrel  h_m (by omega)) E lk_11_73 dX11_newBarrel_12 h_m.1 rfl rfl (by decide) (by decide) ⟨Nat.le_refl _, Nat.le_refl _⟩ (Nat.le_of_ble_eq_true rfl) ?_
  obtain ⟨I1, hI1⟩ : ∃ y_ : ow_I, y_ = M_putBarrel m (tn (I (m + 1) 7)) 0 (nI 0) I := ⟨_, rfl⟩
  replace hk := lt_k (P := fun r : Nat × ow_I => K (some (.int (nI ((r).1)))) (S, (r).2, V, z)) hI1 hk
  refine or_nmI hI1 ?_
  refine or_aload_n E rfl dX11_newBarrel_15 ?_
  refine or_iload_n E rfl dX11_newBarrel_16 ?_
  refine or_bipush (v := nI 10) E rfl dX11_newBarrel_17 ?_
  refine or_iload_n E rfl dX11_newBarrel_19 ?_
  refine or_cV3v (cM_putBarrel  h_m (by omega)) E lk_11_73 dX11_newBarrel_20 h_m.1 rfl rfl (by decide) (by decide) ⟨Nat.le_refl _, Nat.le_refl _⟩ (Nat.le_of_ble_eq_true rfl) ?_
  obtain ⟨I2, hI2⟩ : ∃ y_ : ow_I, y_ = M_putBarrel m (tn (I (m + 1) 7)) 10 r I1 := ⟨_, rfl⟩
  replace hk := lt_k (P := fun r : Nat × ow_I => K (some (.int (nI ((r).1)))) (S, (r).2, V, z)) hI2 hk
  refine or_nmI hI2 ?_
  refine or_aload_n E rfl dX11_newBarrel_23 ?_
  refine or_iload_n E rfl dX11_newBarrel_24 ?_
  refine or_bipush (v := nI 11) E rfl dX11_newBarrel_25 ?_
  refine or_iconst (v := nI 0) E rfl dX11_newBarrel_27 ?_
  refine or_cV3v (cM_putBarrel  h_m (by omega)) E lk_11_73 dX11_newBarrel_28 h_m.1 rfl rfl (by decide) (by decide) ⟨Nat.le_refl _, Nat.le_refl _⟩ (Nat.le_of_ble_eq_true rfl) ?_
  obtain ⟨I3, hI3⟩ : ∃ y_ : ow_I, y_ = M_putBarrel m (tn (I (m + 1) 7)) 11 (nI 0) I2 := ⟨_, rfl⟩
  replace hk := lt_k (P := fun r : Nat × ow_I => K (some (.int (nI ((r).1)))) (S, (r).2, V, z)) hI3 hk
  refine or_nmI hI3 ?_
  refine or_aload_n E rfl dX11_newBarrel_31 ?_
  refine or_iload_n E rfl dX11_newBarrel_32 ?_
  refine or_bipush (v := nI 13) E rfl dX11_newBarrel_33 ?_
  refine or_iconst (v := -1) E rfl dX11_newBarrel_35 ?_
  refine or_cV3v (cM_putBarrel  h_m (by omega)) E lk_11_73 dX11_newBarrel_36 h_m.1 rfl rfl (by decide) (by decide) ⟨Nat.le_refl _, Nat.le_refl _⟩ (Nat.le_of_ble_eq_true rfl) ?_
  obtain ⟨I4, hI4⟩ : ∃ y_ : ow_I, y_ = M_putBarrel m (tn (I (m + 1) 7)) 13 ((-1)) I3 := ⟨_, rfl⟩
  replace hk := lt_k (P := fun r : Nat × ow_I => K (some (.int (nI ((r).1)))) (S, (r).2, V, z)) hI4 hk
  refine or_nmI hI4 ?_
  refine or_aload_n E rfl dX11_newBarrel_39 ?_
  refine or_iload_n E rfl dX11_newBarrel_40 ?_
  refine or_bipush (v := nI 14) E rfl dX11_newBarrel_41 ?_
  refine or_iconst (v := -1) E rfl dX11_newBarrel_43 ?_
  refine or_cV3v (cM_putBarrel  h_m (by omega)) E lk_11_73 dX11_newBarrel_44 h_m.1 rfl rfl (by decide) (by decide) ⟨Nat.le_refl _, Nat.le_refl _⟩ (Nat.le_of_ble_eq_true rfl) ?_
  obtain ⟨I5, hI5⟩ : ∃ y_ : ow_I, y_ = M_putBarrel m (tn (I (m + 1) 7)) 14 ((-1)) I4 := ⟨_, rfl⟩
  replace hk := lt_k (P := fun r : Nat × ow_I => K (some (.int (nI ((r).1)))) (S, (r).2, V, z)) hI5 hk
  refine or_nmI hI5 ?_
  refine or_aload_n E rfl dX11_newBarrel_47 ?_
  refine ot_getC E fl_11_7 dX11_newBarrel_48 h_m.1 rfl ?_
  refine or_bipush (v := nI 7) E rfl dX11_newBarrel_51 ?_
  refine or_dup2 E rfl rfl dX11_newBarrel_53 ?_
  refine ot_iald (j := 7) E dX11_newBarrel_54 h_m.2.1 rfl rfl (by omega) (Nat.le_of_ble_eq_true rfl) ?_
  refine or_iconst (v := nI 1) E rfl dX11_newBarrel_55 ?_
  refine or_iadd E dX11_newBarrel_56 ?_
  refine ot_iast (j := 7) E dX11_newBarrel_57 h_m.2.1 rfl rfl (by omega) (Nat.le_of_ble_eq_true rfl) ?_
  obtain ⟨I6, hI6⟩ : ∃ y_ : ow_I, y_ = ow_u I5 (m + 1) 7 (I5 (m + 1) 7 + (nI 1)) := ⟨_, rfl⟩
  replace hk := lt_k (P := fun r : Nat × ow_I => K (some (.int (nI ((r).1)))) (S, (r).2, V, z)) hI6 hk
  refine or_nmI hI6 ?_
  refine or_aload_n E rfl dX11_newBarrel_58 ?_
  refine or_iload_n E rfl dX11_newBarrel_59 ?_
  refine or_cV1v (cM_enqueue  h_m (by subst hI6 hI5 hI4 hI3 hI2 hI1; exact h7b) (by subst hI6 hI5 hI4 hI3 hI2 hI1; simp (disch := omega) only [ow_u_k, rdPB, rdPu]; exact h12) (by subst hI6 hI5 hI4 hI3 hI2 hI1; simp (disch := omega) only [ow_u_k, rdPB, rdPu]; exact h12b)) E lk_11_76 dX11_newBarrel_60 h_m.1 rfl rfl (by decide) (by decide) ⟨Nat.le_refl _, Nat.le_refl _⟩ (Nat.le_of_ble_eq_true rfl) ?_
  obtain ⟨I7, hI7⟩ : ∃ y_ : ow_I, y_ = M_enqueue m (tn (I (m + 1) 7)) I6 := ⟨_, rfl⟩
  replace hk := lt_k (P := fun r : Nat × ow_I => K (some (.int (nI ((r).1)))) (S, (r).2, V, z)) hI7 hk
  refine or_nmI hI7 ?_
  refine or_iload_n E rfl dX11_newBarrel_63 ?_
  try dsimp only at hk
  exact or_iret E F dX11_newBarrel_64 (Nat.le_refl _) (Nat.le_refl _) hk
def M_addEel (m : Nat) (b : Nat) (x : Int32) (I : ow_I) : ow_I :=
  lt (M_putBarrel m b (1 + (tn (M_ofBarrel m b 0 I))) x I) (fun (I1 : ow_I) => lt (M_putBarrel m b 0 (nI (tn (M_ofBarrel m b 0 I) + 1)) I1) (fun (I2 : ow_I) => I2))
set_option maxRecDepth 100000 in
set_option maxHeartbeats 400000 in
theorem cM_addEel {S : Nat → Option ow_Sh} {I : ow_I} {V : Nat → Nat → Value} {z : Nat} {m : Nat} {b : Nat} {x : Int32} (h_m : md_S S m) (hb : b < 20) (he : 0 ≤ M_ofBarrel m b 0 I) (heb : tn (M_ofBarrel m b 0 I) < 9) : ow_Cf yX11_addEel cX11_addEel 4 none 1 [.ref m, .int (nI b), .int x] (S, I, V, z) none (S, M_addEel m b x I, V, z) := by
  refine ow_Cf.of rfl (Nat.le_of_ble_eq_true rfl) (fun X K E F hk => ?_)
  have E : ow_E X RX11 cX11_addEel 4 (ow_rm 1 0 0) := E
  refine or_lv [(0, .ref m), (1, .int (nI b)), (2, .int x)] rfl ?_
  dsimp only [M_addEel] at hk
  refine or_aload_n E rfl dX11_addEel_0 ?_
  refine or_iload_n E rfl dX11_addEel_1 ?_
  refine or_iconst (v := nI 0) E rfl dX11_addEel_2 ?_
  refine or_cV2r (cM_ofBarrel  h_m (by omega)) E lk_11_66 dX11_addEel_3 h_m.1 rfl rfl (by decide) (by decide) ⟨Nat.le_refl _, Nat.le_refl _⟩ (Nat.le_of_ble_eq_true rfl) ?_
  refine or_top (nI_tn he).symm ?_
  refine or_istore_n E dX11_addEel_6 (by decide) ?_
  refine or_aload_n E rfl dX11_addEel_7 ?_
  refine or_iload_n E rfl dX11_addEel_8 ?_
  refine or_iconst (v := nI 1) E rfl dX11_addEel_9 ?_
  refine or_iload_n E rfl dX11_addEel_10 ?_
  refine or_iaddN E dX11_addEel_11 ?_
  refine or_iload_n E rfl dX11_addEel_12 ?_
  refine or_cV3v (cM_putBarrel  h_m (by omega)) E lk_11_73 dX11_addEel_13 h_m.1 rfl rfl (by decide) (by decide) ⟨Nat.le_refl _, Nat.le_refl _⟩ (Nat.le_of_ble_eq_true rfl) ?_
  obtain ⟨I1, hI1⟩ : ∃ y_ : ow_I, y_ = M_putBarrel m b (1 + (tn (M_ofBarrel m b 0 I))) x I := ⟨_, rfl⟩
  replace hk := lt_k (P := fun r : ow_I => K none (S, r, V, z)) hI1 hk
  refine or_nmI hI1 ?_
  refine or_aload_n E rfl dX11_addEel_16 ?_
  refine or_iload_n E rfl dX11_addEel_17 ?_
  refine or_iconst (v := nI 0) E rfl dX11_addEel_18 ?_
  refine or_iload_n E rfl dX11_addEel_19 ?_
  refine or_iconst (v := nI 1) E rfl dX11_addEel_20 ?_
  refine or_iaddN E dX11_addEel_21 ?_
  refine or_cV3v (cM_putBarrel  h_m (by omega)) E lk_11_73 dX11_addEel_22 h_m.1 rfl rfl (by decide) (by decide) ⟨Nat.le_refl _, Nat.le_refl _⟩ (Nat.le_of_ble_eq_true rfl) ?_
  obtain ⟨I2, hI2⟩ : ∃ y_ : ow_I, y_ = M_putBarrel m b 0 (nI (tn (M_ofBarrel m b 0 I) + 1)) I1 := ⟨_, rfl⟩
  replace hk := lt_k (P := fun r : ow_I => K none (S, r, V, z)) hI2 hk
  refine or_nmI hI2 ?_
  exact or_vret E F dX11_addEel_25 (Nat.le_refl _) (Nat.le_refl _) hk
def M_totalOf_L4 (m : Nat) (b : Nat) : Nat → ow_I → Int32 → Nat → Int32
  | 0, I, _, _ => default
  | n + 1, I, s, e => if tn (M_ofBarrel m b 0 I) ≤ e then s else M_totalOf_L4 m b n I (s + (M_lengthOf m b e I)) (e + 1)
def M_totalOf (m : Nat) (b : Nat) (I : ow_I) : Int32 :=
  M_totalOf_L4 m b 10 I (nI 0) 0
set_option maxRecDepth 100000 in
set_option maxHeartbeats 400000 in
theorem cM_totalOf {S : Nat → Option ow_Sh} {I : ow_I} {V : Nat → Nat → Value} {z : Nat} {m : Nat} {b : Nat} (h_m : md_S S m) (hb : b < 20) (he : 0 ≤ M_ofBarrel m b 0 I) (heb : tn (M_ofBarrel m b 0 I) ≤ 9) : ow_Cf yX11_totalOf cX11_totalOf 4 (some .int) 2 [.ref m, .int (nI b)] (S, I, V, z) (some (.int (M_totalOf m b I))) (S, I, V, z) := by
  refine ow_Cf.of rfl (Nat.le_of_ble_eq_true rfl) (fun X K E F hk => ?_)
  have E : ow_E X RX11 cX11_totalOf 4 (ow_rm 2 0 0) := E
  refine or_lv [(0, .ref m), (1, .int (nI b))] rfl ?_
  have L4 : ∀ (n : Nat) (I : ow_I) (s : Int32) (e : Nat) (he : 0 ≤ M_ofBarrel m b 0 I) (heb : tn (M_ofBarrel m b 0 I) ≤ 9) (hi : e ≤ 9) (hm : tn (M_ofBarrel m b 0 I) - e < n) (hk : K (some (.int (M_totalOf_L4 m b n I s e))) (S, I, V, z)), ow_W X 0 0 (S, I, V, z) 4 [(0, .ref m), (1, .int (nI b)), (2, .int s), (3, .int (nI e))] [] := by
    intro n
    induction n with
    | zero => intro I s e he heb hi hm; omega
    | succ n ih =>
      intro I s e he heb hi hm hk
      dsimp only [M_totalOf_L4] at hk
      refine or_iload_n E rfl dX11_totalOf_4 ?_
      refine or_aload_n E rfl dX11_totalOf_5 ?_
      refine or_iload_n E rfl dX11_totalOf_6 ?_
      refine or_iconst (v := nI 0) E rfl dX11_totalOf_7 ?_
      refine or_cV2r (cM_ofBarrel  h_m (by omega)) E lk_11_66 dX11_totalOf_8 h_m.1 rfl rfl (by decide) (by decide) ⟨Nat.le_refl _, Nat.le_refl _⟩ (Nat.le_of_ble_eq_true rfl) ?_
      refine or_top (nI_tn he).symm ?_
      refine or_icmp_geN 29 E dX11_totalOf_11 rfl (by omega) (by omega) (fun q11 => ?_) (fun q11 => ?_)
      · replace hk := ite_p (P := fun r : Int32 => K (some (.int (r))) (S, I, V, z)) q11 hk
        refine or_iload_n E rfl dX11_totalOf_29 ?_
        exact or_iret E F dX11_totalOf_30 (Nat.le_refl _) (Nat.le_refl _) hk
      · replace hk := ite_n (P := fun r : Int32 => K (some (.int (r))) (S, I, V, z)) q11 hk
        refine or_iload_n E rfl dX11_totalOf_14 ?_
        refine or_aload_n E rfl dX11_totalOf_15 ?_
        refine or_iload_n E rfl dX11_totalOf_16 ?_
        refine or_iload_n E rfl dX11_totalOf_17 ?_
        refine or_cV2r (cM_lengthOf  h_m (by omega)) E lk_11_80 dX11_totalOf_18 h_m.1 rfl rfl (by decide) (by decide) ⟨Nat.le_refl _, Nat.le_refl _⟩ (Nat.le_of_ble_eq_true rfl) ?_
        refine or_iadd E dX11_totalOf_21 ?_
        refine or_istore_n E dX11_totalOf_22 (by decide) ?_
        refine or_iincN (c := 1) E dX11_totalOf_23 rfl rfl (by decide) ?_
        refine or_goto 4 E dX11_totalOf_26 rfl ?_
        refine or_lv _ ?_ (ih _ _ _ he heb (by omega) (by omega) hk)
        rfl
  dsimp only [M_totalOf] at hk
  refine or_iconst (v := nI 0) E rfl dX11_totalOf_0 ?_
  refine or_istore_n E dX11_totalOf_1 (by decide) ?_
  refine or_iconst (v := nI 0) E rfl dX11_totalOf_2 ?_
  refine or_istore_n E dX11_totalOf_3 (by decide) ?_
  refine or_lv _ ?_ (L4 10 _ _ _ he heb (by omega) (by omega) hk)
  rfl
def M_greatestOf_L4 (m : Nat) (b : Nat) : Nat → ow_I → Int32 → Nat → Int32
  | 0, I, _, _ => default
  | n + 1, I, s, e => if tn (M_ofBarrel m b 0 I) ≤ e then s else if M_lengthOf m b e I ≤ s then M_greatestOf_L4 m b n I s (e + 1) else M_greatestOf_L4 m b n I (M_lengthOf m b e I) (e + 1)
def M_greatestOf (m : Nat) (b : Nat) (I : ow_I) : Int32 :=
  M_greatestOf_L4 m b 10 I (nI 0) 0
set_option maxRecDepth 100000 in
set_option maxHeartbeats 400000 in
theorem cM_greatestOf {S : Nat → Option ow_Sh} {I : ow_I} {V : Nat → Nat → Value} {z : Nat} {m : Nat} {b : Nat} (h_m : md_S S m) (hb : b < 20) (he : 0 ≤ M_ofBarrel m b 0 I) (heb : tn (M_ofBarrel m b 0 I) ≤ 9) : ow_Cf yX11_greatestOf cX11_greatestOf 4 (some .int) 2 [.ref m, .int (nI b)] (S, I, V, z) (some (.int (M_greatestOf m b I))) (S, I, V, z) := by
  refine ow_Cf.of rfl (Nat.le_of_ble_eq_true rfl) (fun X K E F hk => ?_)
  have E : ow_E X RX11 cX11_greatestOf 4 (ow_rm 2 0 0) := E
  refine or_lv [(0, .ref m), (1, .int (nI b))] rfl ?_
  have L4 : ∀ (n : Nat) (I : ow_I) (s : Int32) (e : Nat) (he : 0 ≤ M_ofBarrel m b 0 I) (heb : tn (M_ofBarrel m b 0 I) ≤ 9) (hi : e ≤ 9) (hm : tn (M_ofBarrel m b 0 I) - e < n) (hk : K (some (.int (M_greatestOf_L4 m b n I s e))) (S, I, V, z)), ow_W X 0 0 (S, I, V, z) 4 [(0, .ref m), (1, .int (nI b)), (2, .int s), (3, .int (nI e))] [] := by
    intro n
    induction n with
    | zero => intro I s e he heb hi hm; omega
    | succ n ih =>
      intro I s e he heb hi hm hk
      dsimp only [M_greatestOf_L4] at hk
      refine or_iload_n E rfl dX11_greatestOf_4 ?_
      refine or_aload_n E rfl dX11_greatestOf_5 ?_
      refine or_iload_n E rfl dX11_greatestOf_6 ?_
      refine or_iconst (v := nI 0) E rfl dX11_greatestOf_7 ?_
      refine or_cV2r (cM_ofBarrel  h_m (by omega)) E lk_11_66 dX11_greatestOf_8 h_m.1 rfl rfl (by decide) (by decide) ⟨Nat.le_refl _, Nat.le_refl _⟩ (Nat.le_of_ble_eq_true rfl) ?_
      refine or_top (nI_tn he).symm ?_
      refine or_icmp_geN 37 E dX11_greatestOf_11 rfl (by omega) (by omega) (fun q11 => ?_) (fun q11 => ?_)
      · replace hk := ite_p (P := fun r : Int32 => K (some (.int (r))) (S, I, V, z)) q11 hk
        refine or_iload_n E rfl dX11_greatestOf_37 ?_
        exact or_iret E F dX11_greatestOf_38 (Nat.le_refl _) (Nat.le_refl _) hk
      · replace hk := ite_n (P := fun r : Int32 => K (some (.int (r))) (S, I, V, z)) q11 hk
        refine or_aload_n E rfl dX11_greatestOf_14 ?_
        refine or_iload_n E rfl dX11_greatestOf_15 ?_
        refine or_iload_n E rfl dX11_greatestOf_16 ?_
        refine or_cV2r (cM_lengthOf  h_m (by omega)) E lk_11_80 dX11_greatestOf_17 h_m.1 rfl rfl (by decide) (by decide) ⟨Nat.le_refl _, Nat.le_refl _⟩ (Nat.le_of_ble_eq_true rfl) ?_
        refine or_iload_n E rfl dX11_greatestOf_20 ?_
        refine or_icmp_le 31 E dX11_greatestOf_21 rfl (fun q21 => ?_) (fun q21 => ?_)
        · replace hk := ite_p (P := fun r : Int32 => K (some (.int (r))) (S, I, V, z)) q21 hk
          refine or_iincN (c := 1) E dX11_greatestOf_31 rfl rfl (by decide) ?_
          refine or_goto 4 E dX11_greatestOf_34 rfl ?_
          refine or_lv _ ?_ (ih _ _ _ he heb (by omega) (by omega) hk)
          rfl
        · replace hk := ite_n (P := fun r : Int32 => K (some (.int (r))) (S, I, V, z)) q21 hk
          refine or_aload_n E rfl dX11_greatestOf_24 ?_
          refine or_iload_n E rfl dX11_greatestOf_25 ?_
          refine or_iload_n E rfl dX11_greatestOf_26 ?_
          refine or_cV2r (cM_lengthOf  h_m (by omega)) E lk_11_80 dX11_greatestOf_27 h_m.1 rfl rfl (by decide) (by decide) ⟨Nat.le_refl _, Nat.le_refl _⟩ (Nat.le_of_ble_eq_true rfl) ?_
          refine or_istore_n E dX11_greatestOf_30 (by decide) ?_
          refine or_iincN (c := 1) E dX11_greatestOf_31 rfl rfl (by decide) ?_
          refine or_goto 4 E dX11_greatestOf_34 rfl ?_
          refine or_lv _ ?_ (ih _ _ _ he heb (by omega) (by omega) hk)
          rfl
  dsimp only [M_greatestOf] at hk
  refine or_iconst (v := nI 0) E rfl dX11_greatestOf_0 ?_
  refine or_istore_n E dX11_greatestOf_1 (by decide) ?_
  refine or_iconst (v := nI 0) E rfl dX11_greatestOf_2 ?_
  refine or_istore_n E dX11_greatestOf_3 (by decide) ?_
  refine or_lv _ ?_ (L4 10 _ _ _ he heb (by omega) (by omega) hk)
  rfl
def M_shorterThan_L5 (m : Nat) (b : Nat) (x : Int32) : Nat → ow_I → Nat → Nat → Int32
  | 0, I, _, _ => default
  | n + 1, I, c, e => if tn (M_ofBarrel m b 0 I) ≤ e then nI c else if x ≤ M_lengthOf m b e I then M_shorterThan_L5 m b x n I c (e + 1) else M_shorterThan_L5 m b x n I (c + 1) (e + 1)
def M_shorterThan (m : Nat) (b : Nat) (x : Int32) (I : ow_I) : Int32 :=
  M_shorterThan_L5 m b x 10 I 0 0
set_option maxRecDepth 100000 in
set_option maxHeartbeats 400000 in
theorem cM_shorterThan {S : Nat → Option ow_Sh} {I : ow_I} {V : Nat → Nat → Value} {z : Nat} {m : Nat} {b : Nat} {x : Int32} (h_m : md_S S m) (hb : b < 20) (he : 0 ≤ M_ofBarrel m b 0 I) (heb : tn (M_ofBarrel m b 0 I) ≤ 9) : ow_Cf yX11_shorterThan cX11_shorterThan 5 (some .int) 2 [.ref m, .int (nI b), .int x] (S, I, V, z) (some (.int (M_shorterThan m b x I))) (S, I, V, z) := by
  refine ow_Cf.of rfl (Nat.le_of_ble_eq_true rfl) (fun X K E F hk => ?_)
  have E : ow_E X RX11 cX11_shorterThan 5 (ow_rm 2 0 0) := E
  refine or_lv [(0, .ref m), (1, .int (nI b)), (2, .int x)] rfl ?_
  have L5 : ∀ (n : Nat) (I : ow_I) (c : Nat) (e : Nat) (he : 0 ≤ M_ofBarrel m b 0 I) (heb : tn (M_ofBarrel m b 0 I) ≤ 9) (hi : e ≤ 9) (hm : tn (M_ofBarrel m b 0 I) - e < n) (hk : K (some (.int (M_shorterThan_L5 m b x n I c e))) (S, I, V, z)), ow_W X 0 0 (S, I, V, z) 5 [(0, .ref m), (1, .int (nI b)), (2, .int x), (3, .int (nI c)), (4, .int (nI e))] [] := by
    intro n
    induction n with
    | zero => intro I c e he heb hi hm; omega
    | succ n ih =>
      intro I c e he heb hi hm hk
      dsimp only [M_shorterThan_L5] at hk
      refine or_iload E rfl dX11_shorterThan_5 ?_
      refine or_aload_n E rfl dX11_shorterThan_7 ?_
      refine or_iload_n E rfl dX11_shorterThan_8 ?_
      refine or_iconst (v := nI 0) E rfl dX11_shorterThan_9 ?_
      refine or_cV2r (cM_ofBarrel  h_m (by omega)) E lk_11_66 dX11_shorterThan_10 h_m.1 rfl rfl (by decide) (by decide) ⟨Nat.le_refl _, Nat.le_refl _⟩ (Nat.le_of_ble_eq_true rfl) ?_
      refine or_top (nI_tn he).symm ?_
      refine or_icmp_geN 36 E dX11_shorterThan_13 rfl (by omega) (by omega) (fun q13 => ?_) (fun q13 => ?_)
      · replace hk := ite_p (P := fun r : Int32 => K (some (.int (r))) (S, I, V, z)) q13 hk
        refine or_iload_n E rfl dX11_shorterThan_36 ?_
        exact or_iret E F dX11_shorterThan_37 (Nat.le_refl _) (Nat.le_refl _) hk
      · replace hk := ite_n (P := fun r : Int32 => K (some (.int (r))) (S, I, V, z)) q13 hk
        refine or_aload_n E rfl dX11_shorterThan_16 ?_
        refine or_iload_n E rfl dX11_shorterThan_17 ?_
        refine or_iload E rfl dX11_shorterThan_18 ?_
        refine or_cV2r (cM_lengthOf  h_m (by omega)) E lk_11_80 dX11_shorterThan_20 h_m.1 rfl rfl (by decide) (by decide) ⟨Nat.le_refl _, Nat.le_refl _⟩ (Nat.le_of_ble_eq_true rfl) ?_
        refine or_iload_n E rfl dX11_shorterThan_23 ?_
        refine or_icmp_ge 30 E dX11_shorterThan_24 rfl (fun q24 => ?_) (fun q24 => ?_)
        · replace hk := ite_p (P := fun r : Int32 => K (some (.int (r))) (S, I, V, z)) q24 hk
          refine or_iincN (c := 1) E dX11_shorterThan_30 rfl rfl (by decide) ?_
          refine or_goto 5 E dX11_shorterThan_33 rfl ?_
          refine or_lv _ ?_ (ih _ _ _ he heb (by omega) (by omega) hk)
          rfl
        · replace hk := ite_n (P := fun r : Int32 => K (some (.int (r))) (S, I, V, z)) q24 hk
          refine or_iincN (c := 1) E dX11_shorterThan_27 rfl rfl (by decide) ?_
          refine or_iincN (c := 1) E dX11_shorterThan_30 rfl rfl (by decide) ?_
          refine or_goto 5 E dX11_shorterThan_33 rfl ?_
          refine or_lv _ ?_ (ih _ _ _ he heb (by omega) (by omega) hk)
          rfl
  dsimp only [M_shorterThan] at hk
  refine or_iconst (v := nI 0) E rfl dX11_shorterThan_0 ?_
  refine or_istore_n E dX11_shorterThan_1 (by decide) ?_
  refine or_iconst (v := nI 0) E rfl dX11_shorterThan_2 ?_
  refine or_istore E dX11_shorterThan_3 (by decide) ?_
  refine or_lv _ ?_ (L5 10 _ _ _ he heb (by omega) (by omega) hk)
  rfl
def M_middleOf_L13 (m : Nat) (b : Nat) : Nat → ow_I → Nat → Int32
  | 0, I, _ => default
  | n + 1, I, e => if tn (M_ofBarrel m b 0 I) ≤ e then (-1) else if nI (((tn (M_ofBarrel m b 0 I)) - 1) / 2) < M_shorterThan m b (M_lengthOf m b e I) I then M_middleOf_L13 m b n I (e + 1) else if M_shorterThan m b (M_lengthOf m b e I + (nI 1)) I ≤ nI (((tn (M_ofBarrel m b 0 I)) - 1) / 2) then M_middleOf_L13 m b n I (e + 1) else M_lengthOf m b e I
def M_middleOf (m : Nat) (b : Nat) (I : ow_I) : Int32 :=
  M_middleOf_L13 m b 10 I 0
set_option maxRecDepth 100000 in
set_option maxHeartbeats 400000 in
theorem cM_middleOf {S : Nat → Option ow_Sh} {I : ow_I} {V : Nat → Nat → Value} {z : Nat} {m : Nat} {b : Nat} (h_m : md_S S m) (hb : b < 20) (he : 0 ≤ M_ofBarrel m b 0 I) (heb : tn (M_ofBarrel m b 0 I) ≤ 9) (he1 : 1 ≤ tn (M_ofBarrel m b 0 I)) : ow_Cf yX11_middleOf cX11_middleOf 5 (some .int) 3 [.ref m, .int (nI b)] (S, I, V, z) (some (.int (M_middleOf m b I))) (S, I, V, z) := by
  refine ow_Cf.of rfl (Nat.le_of_ble_eq_true rfl) (fun X K E F hk => ?_)
  have E : ow_E X RX11 cX11_middleOf 5 (ow_rm 3 0 0) := E
  refine or_lv [(0, .ref m), (1, .int (nI b))] rfl ?_
  have L13 : ∀ (n : Nat) (I : ow_I) (e : Nat) (he : 0 ≤ M_ofBarrel m b 0 I) (heb : tn (M_ofBarrel m b 0 I) ≤ 9) (hi : e ≤ 9) (hm : tn (M_ofBarrel m b 0 I) - e < n) (hk : K (some (.int (M_middleOf_L13 m b n I e))) (S, I, V, z)), ow_W X 0 0 (S, I, V, z) 13 [(0, .ref m), (1, .int (nI b)), (2, .int (nI (((tn (M_ofBarrel m b 0 I)) - 1) / 2))), (3, .int (nI e))] [] := by
    intro n
    induction n with
    | zero => intro I e he heb hi hm; omega
    | succ n ih =>
      intro I e he heb hi hm hk
      dsimp only [M_middleOf_L13] at hk
      refine or_iload_n E rfl dX11_middleOf_13 ?_
      refine or_aload_n E rfl dX11_middleOf_14 ?_
      refine or_iload_n E rfl dX11_middleOf_15 ?_
      refine or_iconst (v := nI 0) E rfl dX11_middleOf_16 ?_
      refine or_cV2r (cM_ofBarrel  h_m (by omega)) E lk_11_66 dX11_middleOf_17 h_m.1 rfl rfl (by decide) (by decide) ⟨Nat.le_refl _, Nat.le_refl _⟩ (Nat.le_of_ble_eq_true rfl) ?_
      refine or_top (nI_tn he).symm ?_
      refine or_icmp_geN 64 E dX11_middleOf_20 rfl (by omega) (by omega) (fun q20 => ?_) (fun q20 => ?_)
      · replace hk := ite_p (P := fun r : Int32 => K (some (.int (r))) (S, I, V, z)) q20 hk
        refine or_iconst (v := -1) E rfl dX11_middleOf_64 ?_
        exact or_iret E F dX11_middleOf_65 (Nat.le_refl _) (Nat.le_refl _) hk
      · replace hk := ite_n (P := fun r : Int32 => K (some (.int (r))) (S, I, V, z)) q20 hk
        refine or_aload_n E rfl dX11_middleOf_23 ?_
        refine or_iload_n E rfl dX11_middleOf_24 ?_
        refine or_iload_n E rfl dX11_middleOf_25 ?_
        refine or_cV2r (cM_lengthOf  h_m (by omega)) E lk_11_80 dX11_middleOf_26 h_m.1 rfl rfl (by decide) (by decide) ⟨Nat.le_refl _, Nat.le_refl _⟩ (Nat.le_of_ble_eq_true rfl) ?_
        refine or_istore E dX11_middleOf_29 (by decide) ?_
        refine or_aload_n E rfl dX11_middleOf_31 ?_
        refine or_iload_n E rfl dX11_middleOf_32 ?_
        refine or_iload E rfl dX11_middleOf_33 ?_
        refine or_cV2r (cM_shorterThan  h_m hb he heb) E lk_11_83 dX11_middleOf_35 h_m.1 rfl rfl (by decide) (by decide) ⟨Nat.le_refl _, Nat.le_refl _⟩ (Nat.le_of_ble_eq_true rfl) ?_
        refine or_iload_n E rfl dX11_middleOf_38 ?_
        refine or_icmp_gt 58 E dX11_middleOf_39 rfl (fun q39 => ?_) (fun q39 => ?_)
        · replace hk := ite_p (P := fun r : Int32 => K (some (.int (r))) (S, I, V, z)) q39 hk
          refine or_iincN (c := 1) E dX11_middleOf_58 rfl rfl (by decide) ?_
          refine or_goto 13 E dX11_middleOf_61 rfl ?_
          refine or_lv _ ?_ (ih _ _ he heb (by omega) (by omega) hk)
          rfl
        · replace hk := ite_n (P := fun r : Int32 => K (some (.int (r))) (S, I, V, z)) q39 hk
          refine or_aload_n E rfl dX11_middleOf_42 ?_
          refine or_iload_n E rfl dX11_middleOf_43 ?_
          refine or_iload E rfl dX11_middleOf_44 ?_
          refine or_iconst (v := nI 1) E rfl dX11_middleOf_46 ?_
          refine or_iadd E dX11_middleOf_47 ?_
          refine or_cV2r (cM_shorterThan  h_m hb he heb) E lk_11_83 dX11_middleOf_48 h_m.1 rfl rfl (by decide) (by decide) ⟨Nat.le_refl _, Nat.le_refl _⟩ (Nat.le_of_ble_eq_true rfl) ?_
          refine or_iload_n E rfl dX11_middleOf_51 ?_
          refine or_icmp_le 58 E dX11_middleOf_52 rfl (fun q52 => ?_) (fun q52 => ?_)
          · replace hk := ite_p (P := fun r : Int32 => K (some (.int (r))) (S, I, V, z)) q52 hk
            refine or_iincN (c := 1) E dX11_middleOf_58 rfl rfl (by decide) ?_
            refine or_goto 13 E dX11_middleOf_61 rfl ?_
            refine or_lv _ ?_ (ih _ _ he heb (by omega) (by omega) hk)
            rfl
          · replace hk := ite_n (P := fun r : Int32 => K (some (.int (r))) (S, I, V, z)) q52 hk
            refine or_iload E rfl dX11_middleOf_55 ?_
            exact or_iret E F dX11_middleOf_57 (Nat.le_refl _) (Nat.le_refl _) hk
  dsimp only [M_middleOf] at hk
  refine or_aload_n E rfl dX11_middleOf_0 ?_
  refine or_iload_n E rfl dX11_middleOf_1 ?_
  refine or_iconst (v := nI 0) E rfl dX11_middleOf_2 ?_
  refine or_cV2r (cM_ofBarrel  h_m (by omega)) E lk_11_66 dX11_middleOf_3 h_m.1 rfl rfl (by decide) (by decide) ⟨Nat.le_refl _, Nat.le_refl _⟩ (Nat.le_of_ble_eq_true rfl) ?_
  refine or_top (nI_tn he).symm ?_
  refine or_iconst (v := nI 1) E rfl dX11_middleOf_6 ?_
  refine or_isubN E dX11_middleOf_7 (by omega) ?_
  refine or_iconst (v := nI 2) E rfl dX11_middleOf_8 ?_
  refine or_idivN E dX11_middleOf_9 (by omega) (by omega) (by omega) ?_
  refine or_istore_n E dX11_middleOf_10 (by decide) ?_
  refine or_iconst (v := nI 0) E rfl dX11_middleOf_11 ?_
  refine or_istore_n E dX11_middleOf_12 (by decide) ?_
  refine or_lv _ ?_ (L13 10 _ _ he heb (by omega) (by omega) hk)
  rfl
def M_worthTo (m : Nat) (b : Nat) (k : Nat) (I : ow_I) : UInt64 :=
  if M_of m b 1 I = nI (1 + 0) then FP.ddiv (FP.i2d ((M_of m b 2 I) * (M_totalOf m k I))) ((4636737291354636288 : UInt64)) else if M_of m b 1 I = nI (1 + 1) then FP.ddiv (FP.i2d ((M_of m b 2 I) * (M_ofBarrel m k 0 I))) ((4621819117588971520 : UInt64)) else if M_of m b 1 I = nI (1 + 2) then FP.ddiv (FP.i2d (((M_of m b 2 I) * (M_greatestOf m k I)) * (M_ofBarrel m k 0 I))) ((4636737291354636288 : UInt64)) else if M_of m b 1 I = nI (1 + 3) then FP.ddiv (FP.i2d ((M_of m b 2 I) * (M_ofBarrel m k 0 I - (M_shorterThan m k (nI 60) I)))) ((4617315517961601024 : UInt64)) else FP.dconst0
set_option maxRecDepth 100000 in
set_option maxHeartbeats 400000 in
theorem cM_worthTo {S : Nat → Option ow_Sh} {I : ow_I} {V : Nat → Nat → Value} {z : Nat} {m : Nat} {b : Nat} {k : Nat} (h_m : md_S S m) (hb : b < 6) (hk2 : k < 20) (he : 0 ≤ M_ofBarrel m k 0 I) (heb : tn (M_ofBarrel m k 0 I) ≤ 9) : ow_Cf yX11_worthTo cX11_worthTo 5 (some .double) 3 [.ref m, .int (nI b), .int (nI k)] (S, I, V, z) (some (.double (M_worthTo m b k I))) (S, I, V, z) := by
  refine ow_Cf.of rfl (Nat.le_of_ble_eq_true rfl) (fun X K E F hk => ?_)
  have E : ow_E X RX11 cX11_worthTo 5 (ow_rm 3 0 0) := E
  refine or_lv [(0, .ref m), (1, .int (nI b)), (2, .int (nI k))] rfl ?_
  dsimp only [M_worthTo] at hk
  refine or_aload_n E rfl dX11_worthTo_0 ?_
  refine or_iload_n E rfl dX11_worthTo_1 ?_
  refine or_iconst (v := nI 2) E rfl dX11_worthTo_2 ?_
  refine or_cV2r (cM_of  h_m (by omega)) E lk_11_86 dX11_worthTo_3 h_m.1 rfl rfl (by decide) (by decide) ⟨Nat.le_refl _, Nat.le_refl _⟩ (Nat.le_of_ble_eq_true rfl) ?_
  refine or_istore_n E dX11_worthTo_6 (by decide) ?_
  refine or_aload_n E rfl dX11_worthTo_7 ?_
  refine or_iload_n E rfl dX11_worthTo_8 ?_
  refine or_iconst (v := nI 0) E rfl dX11_worthTo_9 ?_
  refine or_cV2r (cM_ofBarrel  h_m (by omega)) E lk_11_66 dX11_worthTo_10 h_m.1 rfl rfl (by decide) (by decide) ⟨Nat.le_refl _, Nat.le_refl _⟩ (Nat.le_of_ble_eq_true rfl) ?_
  refine or_istore E dX11_worthTo_13 (by decide) ?_
  refine or_aload_n E rfl dX11_worthTo_15 ?_
  refine or_iload_n E rfl dX11_worthTo_16 ?_
  refine or_iconst (v := nI 1) E rfl dX11_worthTo_17 ?_
  refine or_cV2r (cM_of  h_m (by omega)) E lk_11_86 dX11_worthTo_18 h_m.1 rfl rfl (by decide) (by decide) ⟨Nat.le_refl _, Nat.le_refl _⟩ (Nat.le_of_ble_eq_true rfl) ?_
  refine or_tab4 (lo := 1) 52 65 75 91 109 E dX11_worthTo_21 (by decide) rfl rfl rfl rfl rfl (fun q21_0 => ?_) (fun q21_0 q21_1 => ?_) (fun q21_0 q21_1 q21_2 => ?_) (fun q21_0 q21_1 q21_2 q21_3 => ?_) (fun q21_0 q21_1 q21_2 q21_3 => ?_)
  · replace hk := ite_p (P := fun r : UInt64 => K (some (.double (r))) (S, I, V, z)) q21_0 hk
    refine or_iload_n E rfl dX11_worthTo_52 ?_
    refine or_aload_n E rfl dX11_worthTo_53 ?_
    refine or_iload_n E rfl dX11_worthTo_54 ?_
    refine or_cV1r (cM_totalOf  h_m hk2 he heb) E lk_11_89 dX11_worthTo_55 h_m.1 rfl rfl (by decide) (by decide) ⟨Nat.le_refl _, Nat.le_refl _⟩ (Nat.le_of_ble_eq_true rfl) ?_
    refine or_imul E dX11_worthTo_58 ?_
    refine or_i2d E dX11_worthTo_59 ?_
    refine or_ldc2d (v := 4636737291354636288) E wd_1969 dX11_worthTo_60 ?_
    refine or_ddiv E (fp_i2d_div100 _) dX11_worthTo_63 ?_
    exact or_dret E F dX11_worthTo_64 (Nat.le_refl _) (Nat.le_refl _) hk
  · replace hk := ite_n (P := fun r : UInt64 => K (some (.double (r))) (S, I, V, z)) q21_0 hk; replace hk := ite_p (P := fun r : UInt64 => K (some (.double (r))) (S, I, V, z)) q21_1 hk
    refine or_iload_n E rfl dX11_worthTo_65 ?_
    refine or_iload E rfl dX11_worthTo_66 ?_
    refine or_imul E dX11_worthTo_68 ?_
    refine or_i2d E dX11_worthTo_69 ?_
    refine or_ldc2d (v := 4621819117588971520) E wd_1970 dX11_worthTo_70 ?_
    refine or_ddiv E (fp_i2d_div10 _) dX11_worthTo_73 ?_
    exact or_dret E F dX11_worthTo_74 (Nat.le_refl _) (Nat.le_refl _) hk
  · replace hk := ite_n (P := fun r : UInt64 => K (some (.double (r))) (S, I, V, z)) q21_0 hk; replace hk := ite_n (P := fun r : UInt64 => K (some (.double (r))) (S, I, V, z)) q21_1 hk; replace hk := ite_p (P := fun r : UInt64 => K (some (.double (r))) (S, I, V, z)) q21_2 hk
    refine or_iload_n E rfl dX11_worthTo_75 ?_
    refine or_aload_n E rfl dX11_worthTo_76 ?_
    refine or_iload_n E rfl dX11_worthTo_77 ?_
    refine or_cV1r (cM_greatestOf  h_m hk2 he heb) E lk_11_96 dX11_worthTo_78 h_m.1 rfl rfl (by decide) (by decide) ⟨Nat.le_refl _, Nat.le_refl _⟩ (Nat.le_of_ble_eq_true rfl) ?_
    refine or_imul E dX11_worthTo_81 ?_
    refine or_iload E rfl dX11_worthTo_82 ?_
    refine or_imul E dX11_worthTo_84 ?_
    refine or_i2d E dX11_worthTo_85 ?_
    refine or_ldc2d (v := 4636737291354636288) E wd_1969 dX11_worthTo_86 ?_
    refine or_ddiv E (fp_i2d_div100 _) dX11_worthTo_89 ?_
    exact or_dret E F dX11_worthTo_90 (Nat.le_refl _) (Nat.le_refl _) hk
  · replace hk := ite_n (P := fun r : UInt64 => K (some (.double (r))) (S, I, V, z)) q21_0 hk; replace hk := ite_n (P := fun r : UInt64 => K (some (.double (r))) (S, I, V, z)) q21_1 hk; replace hk := ite_n (P := fun r : UInt64 => K (some (.double (r))) (S, I, V, z)) q21_2 hk; replace hk := ite_p (P := fun r : UInt64 => K (some (.double (r))) (S, I, V, z)) q21_3 hk
    refine or_iload_n E rfl dX11_worthTo_91 ?_
    refine or_iload E rfl dX11_worthTo_92 ?_
    refine or_aload_n E rfl dX11_worthTo_94 ?_
    refine or_iload_n E rfl dX11_worthTo_95 ?_
    refine or_bipush (v := nI 60) E rfl dX11_worthTo_96 ?_
    refine or_cV2r (cM_shorterThan  h_m hk2 he heb) E lk_11_83 dX11_worthTo_98 h_m.1 rfl rfl (by decide) (by decide) ⟨Nat.le_refl _, Nat.le_refl _⟩ (Nat.le_of_ble_eq_true rfl) ?_
    refine or_isub E dX11_worthTo_101 ?_
    refine or_imul E dX11_worthTo_102 ?_
    refine or_i2d E dX11_worthTo_103 ?_
    refine or_ldc2d (v := 4617315517961601024) E wd_1979 dX11_worthTo_104 ?_
    refine or_ddiv E (fp_i2d_div5 _) dX11_worthTo_107 ?_
    exact or_dret E F dX11_worthTo_108 (Nat.le_refl _) (Nat.le_refl _) hk
  · replace hk := ite_n (P := fun r : UInt64 => K (some (.double (r))) (S, I, V, z)) q21_0 hk; replace hk := ite_n (P := fun r : UInt64 => K (some (.double (r))) (S, I, V, z)) q21_1 hk; replace hk := ite_n (P := fun r : UInt64 => K (some (.double (r))) (S, I, V, z)) q21_2 hk; replace hk := ite_n (P := fun r : UInt64 => K (some (.double (r))) (S, I, V, z)) q21_3 hk
    refine or_dconst0 E dX11_worthTo_109 ?_
    exact or_dret E F dX11_worthTo_110 (Nat.le_refl _) (Nat.le_refl _) hk
def M_isOpenNow (m : Nat) (I : ow_I) : Bool :=
  M_isOpenIn m (I (m + 1) 5) I
set_option maxRecDepth 100000 in
set_option maxHeartbeats 400000 in
theorem cM_isOpenNow {S : Nat → Option ow_Sh} {I : ow_I} {V : Nat → Nat → Value} {z : Nat} {m : Nat} (h_m : md_S S m) (hp : ¬ I (m + 1) 0 = 0) : ow_Cf yX11_isOpenNow cX11_isOpenNow 1 (some .boolean) 1 [.ref m] (S, I, V, z) (some (.int (bi (M_isOpenNow m I)))) (S, I, V, z) := by
  refine ow_Cf.of rfl (Nat.le_of_ble_eq_true rfl) (fun X K E F hk => ?_)
  have E : ow_E X RX11 cX11_isOpenNow 1 (ow_rm 1 0 0) := E
  refine or_lv [(0, .ref m)] rfl ?_
  dsimp only [M_isOpenNow] at hk
  refine or_aload_n E rfl dX11_isOpenNow_0 ?_
  refine or_aload_n E rfl dX11_isOpenNow_1 ?_
  refine ot_getC E fl_11_7 dX11_isOpenNow_2 h_m.1 rfl ?_
  refine or_iconst (v := nI 5) E rfl dX11_isOpenNow_5 ?_
  refine ot_iald (j := 5) E dX11_isOpenNow_6 h_m.2.1 rfl rfl (by omega) (Nat.le_of_ble_eq_true rfl) ?_
  refine or_cV1r (cM_isOpenIn  h_m hp) E lk_11_101 dX11_isOpenNow_7 h_m.1 rfl rfl (by decide) (by decide) ⟨Nat.le_refl _, Nat.le_refl _⟩ (Nat.le_of_ble_eq_true rfl) ?_
  exact or_zret E F dX11_isOpenNow_10 (Nat.le_refl _) (Nat.le_refl _) (bi_nar _) hk
def M_blowsIn (m : Nat) (n : Int32) (I : ow_I) : Bool :=
  if M_isOpenIn m n I then false else if M_isOpenIn m (n - (nI 1)) I then true else false
set_option maxRecDepth 100000 in
set_option maxHeartbeats 400000 in
theorem cM_blowsIn {S : Nat → Option ow_Sh} {I : ow_I} {V : Nat → Nat → Value} {z : Nat} {m : Nat} {n : Int32} (h_m : md_S S m) (hp : ¬ I (m + 1) 0 = 0) : ow_Cf yX11_blowsIn cX11_blowsIn 2 (some .boolean) 1 [.ref m, .int n] (S, I, V, z) (some (.int (bi (M_blowsIn m n I)))) (S, I, V, z) := by
  refine ow_Cf.of rfl (Nat.le_of_ble_eq_true rfl) (fun X K E F hk => ?_)
  have E : ow_E X RX11 cX11_blowsIn 2 (ow_rm 1 0 0) := E
  refine or_lv [(0, .ref m), (1, .int n)] rfl ?_
  dsimp only [M_blowsIn] at hk
  refine or_aload_n E rfl dX11_blowsIn_0 ?_
  refine or_iload_n E rfl dX11_blowsIn_1 ?_
  refine or_cV1r (cM_isOpenIn  h_m hp) E lk_11_101 dX11_blowsIn_2 h_m.1 rfl rfl (by decide) (by decide) ⟨Nat.le_refl _, Nat.le_refl _⟩ (Nat.le_of_ble_eq_true rfl) ?_
  refine or_if_neZ 22 E dX11_blowsIn_5 rfl (fun q5 => ?_) (fun q5 => ?_)
  · replace hk := ite_p (P := fun r : Bool => K (some (.int (bi (r)))) (S, I, V, z)) q5 hk
    refine or_iconst (v := nI 0) E rfl dX11_blowsIn_22 ?_
    exact or_zret E F dX11_blowsIn_23 (Nat.le_refl _) (Nat.le_refl _) (bi_nar false) hk
  · replace hk := ite_n (P := fun r : Bool => K (some (.int (bi (r)))) (S, I, V, z)) (bz_neg q5) hk
    refine or_aload_n E rfl dX11_blowsIn_8 ?_
    refine or_iload_n E rfl dX11_blowsIn_9 ?_
    refine or_iconst (v := nI 1) E rfl dX11_blowsIn_10 ?_
    refine or_isub E dX11_blowsIn_11 ?_
    refine or_cV1r (cM_isOpenIn  h_m hp) E lk_11_101 dX11_blowsIn_12 h_m.1 rfl rfl (by decide) (by decide) ⟨Nat.le_refl _, Nat.le_refl _⟩ (Nat.le_of_ble_eq_true rfl) ?_
    refine or_if_eqZ 22 E dX11_blowsIn_15 rfl (fun q15 => ?_) (fun q15 => ?_)
    · replace hk := ite_n (P := fun r : Bool => K (some (.int (bi (r)))) (S, I, V, z)) (bz_neg q15) hk
      refine or_iconst (v := nI 0) E rfl dX11_blowsIn_22 ?_
      exact or_zret E F dX11_blowsIn_23 (Nat.le_refl _) (Nat.le_refl _) (bi_nar false) hk
    · replace hk := ite_p (P := fun r : Bool => K (some (.int (bi (r)))) (S, I, V, z)) q15 hk
      refine or_iconst (v := nI 1) E rfl dX11_blowsIn_18 ?_
      refine or_goto 23 E dX11_blowsIn_19 rfl ?_
      exact or_zret E F dX11_blowsIn_23 (Nat.le_refl _) (Nat.le_refl _) (bi_nar true) hk
def M_bidNext (m : Nat) (I : ow_I) : Int32 :=
  if 0 ≤ I (m + 1) 10 then I (m + 1) 9 + (I (m + 1) 3) else M_ofBarrel m (tn (I (m + 1) 8)) 10 I
set_option maxRecDepth 100000 in
set_option maxHeartbeats 400000 in
theorem cM_bidNext {S : Nat → Option ow_Sh} {I : ow_I} {V : Nat → Nat → Value} {z : Nat} {m : Nat} (h_m : md_S S m) (h8 : ¬ 0 ≤ I (m + 1) 10 → 0 ≤ I (m + 1) 8 ∧ tn (I (m + 1) 8) < 20) : ow_Cf yX11_bidNext cX11_bidNext 1 (some .int) 1 [.ref m] (S, I, V, z) (some (.int (M_bidNext m I))) (S, I, V, z) := by
  refine ow_Cf.of rfl (Nat.le_of_ble_eq_true rfl) (fun X K E F hk => ?_)
  have E : ow_E X RX11 cX11_bidNext 1 (ow_rm 1 0 0) := E
  refine or_lv [(0, .ref m)] rfl ?_
  dsimp only [M_bidNext] at hk
  refine or_aload_n E rfl dX11_bidNext_0 ?_
  refine ot_getC E fl_11_7 dX11_bidNext_1 h_m.1 rfl ?_
  refine or_bipush (v := nI 10) E rfl dX11_bidNext_4 ?_
  refine ot_iald (j := 10) E dX11_bidNext_6 h_m.2.1 rfl rfl (by omega) (Nat.le_of_ble_eq_true rfl) ?_
  refine or_if_ge 26 E dX11_bidNext_7 rfl (fun q7 => ?_) (fun q7 => ?_)
  · replace hk := ite_p (P := fun r : Int32 => K (some (.int (r))) (S, I, V, z)) q7 hk
    refine or_aload_n E rfl dX11_bidNext_26 ?_
    refine ot_getC E fl_11_7 dX11_bidNext_27 h_m.1 rfl ?_
    refine or_bipush (v := nI 9) E rfl dX11_bidNext_30 ?_
    refine ot_iald (j := 9) E dX11_bidNext_32 h_m.2.1 rfl rfl (by omega) (Nat.le_of_ble_eq_true rfl) ?_
    refine or_aload_n E rfl dX11_bidNext_33 ?_
    refine ot_getC E fl_11_7 dX11_bidNext_34 h_m.1 rfl ?_
    refine or_iconst (v := nI 3) E rfl dX11_bidNext_37 ?_
    refine ot_iald (j := 3) E dX11_bidNext_38 h_m.2.1 rfl rfl (by omega) (Nat.le_of_ble_eq_true rfl) ?_
    refine or_iadd E dX11_bidNext_39 ?_
    exact or_iret E F dX11_bidNext_40 (Nat.le_refl _) (Nat.le_refl _) hk
  · replace hk := ite_n (P := fun r : Int32 => K (some (.int (r))) (S, I, V, z)) q7 hk
    refine or_aload_n E rfl dX11_bidNext_10 ?_
    refine or_aload_n E rfl dX11_bidNext_11 ?_
    refine ot_getC E fl_11_7 dX11_bidNext_12 h_m.1 rfl ?_
    refine or_bipush (v := nI 8) E rfl dX11_bidNext_15 ?_
    refine ot_iald (j := 8) E dX11_bidNext_17 h_m.2.1 rfl rfl (by omega) (Nat.le_of_ble_eq_true rfl) ?_
    refine or_top (nI_tn (h8 q7).1).symm ?_
    refine or_bipush (v := nI 10) E rfl dX11_bidNext_18 ?_
    refine or_cV2r (cM_ofBarrel  h_m (by have := (h8 q7).2; omega)) E lk_11_66 dX11_bidNext_20 h_m.1 rfl rfl (by decide) (by decide) ⟨Nat.le_refl _, Nat.le_refl _⟩ (Nat.le_of_ble_eq_true rfl) ?_
    refine or_goto 40 E dX11_bidNext_23 rfl ?_
    exact or_iret E F dX11_bidNext_40 (Nat.le_refl _) (Nat.le_refl _) hk
def M_costOfPrice (m : Nat) (p : Int32) (I : ow_I) : Int32 :=
  p + ((p * (I (m + 1) 4)) / (nI 100))
set_option maxRecDepth 100000 in
set_option maxHeartbeats 400000 in
theorem cM_costOfPrice {S : Nat → Option ow_Sh} {I : ow_I} {V : Nat → Nat → Value} {z : Nat} {m : Nat} {p : Int32} (h_m : md_S S m)  : ow_Cf yX11_costOfPrice cX11_costOfPrice 2 (some .int) 0 [.ref m, .int p] (S, I, V, z) (some (.int (M_costOfPrice m p I))) (S, I, V, z) := by
  refine ow_Cf.of rfl (Nat.le_of_ble_eq_true rfl) (fun X K E F hk => ?_)
  have E : ow_E X RX11 cX11_costOfPrice 2 (ow_rm 0 0 0) := E
  refine or_lv [(0, .ref m), (1, .int p)] rfl ?_
  dsimp only [M_costOfPrice] at hk
  refine or_iload_n E rfl dX11_costOfPrice_0 ?_
  refine or_iload_n E rfl dX11_costOfPrice_1 ?_
  refine or_aload_n E rfl dX11_costOfPrice_2 ?_
  refine ot_getC E fl_11_7 dX11_costOfPrice_3 h_m.1 rfl ?_
  refine or_iconst (v := nI 4) E rfl dX11_costOfPrice_6 ?_
  refine ot_iald (j := 4) E dX11_costOfPrice_7 h_m.2.1 rfl rfl (by omega) (Nat.le_of_ble_eq_true rfl) ?_
  refine or_imul E dX11_costOfPrice_8 ?_
  refine or_bipush (v := nI 100) E rfl dX11_costOfPrice_9 ?_
  refine or_idiv E (by decide) dX11_costOfPrice_11 ?_
  refine or_iadd E dX11_costOfPrice_12 ?_
  exact or_iret E F dX11_costOfPrice_13 (Nat.le_refl _) (Nat.le_refl _) hk
def M_reasonAgainst (m : Nat) (b : Nat) (I : ow_I) : Int32 :=
  if M_isOpenNow m I then if 0 ≤ I (m + 1) 8 then if I (m + 1) 10 = nI b then nI 3 else if M_costOfPrice m (M_bidNext m I) I ≤ M_of m b 0 I then nI 0 else nI 4 else nI 2 else nI 1
set_option maxRecDepth 100000 in
set_option maxHeartbeats 400000 in
theorem cM_reasonAgainst {S : Nat → Option ow_Sh} {I : ow_I} {V : Nat → Nat → Value} {z : Nat} {m : Nat} {b : Nat} (h_m : md_S S m) (hb : b < 6) (hp : ¬ I (m + 1) 0 = 0) (h8b : tn (I (m + 1) 8) < 20) : ow_Cf yX11_reasonAgainst cX11_reasonAgainst 2 (some .int) 2 [.ref m, .int (nI b)] (S, I, V, z) (some (.int (M_reasonAgainst m b I))) (S, I, V, z) := by
  refine ow_Cf.of rfl (Nat.le_of_ble_eq_true rfl) (fun X K E F hk => ?_)
  have E : ow_E X RX11 cX11_reasonAgainst 2 (ow_rm 2 0 0) := E
  refine or_lv [(0, .ref m), (1, .int (nI b))] rfl ?_
  dsimp only [M_reasonAgainst] at hk
  refine or_aload_n E rfl dX11_reasonAgainst_0 ?_
  refine or_cV0r (cM_isOpenNow  h_m hp) E lk_11_105 dX11_reasonAgainst_1 h_m.1 rfl rfl (by decide) (by decide) ⟨Nat.le_refl _, Nat.le_refl _⟩ (Nat.le_of_ble_eq_true rfl) ?_
  refine or_if_neZ 9 E dX11_reasonAgainst_4 rfl (fun q4 => ?_) (fun q4 => ?_)
  · replace hk := ite_p (P := fun r : Int32 => K (some (.int (r))) (S, I, V, z)) q4 hk
    refine or_aload_n E rfl dX11_reasonAgainst_9 ?_
    refine ot_getC E fl_11_7 dX11_reasonAgainst_10 h_m.1 rfl ?_
    refine or_bipush (v := nI 8) E rfl dX11_reasonAgainst_13 ?_
    refine ot_iald (j := 8) E dX11_reasonAgainst_15 h_m.2.1 rfl rfl (by omega) (Nat.le_of_ble_eq_true rfl) ?_
    refine or_if_ge 21 E dX11_reasonAgainst_16 rfl (fun q16 => ?_) (fun q16 => ?_)
    · replace hk := ite_p (P := fun r : Int32 => K (some (.int (r))) (S, I, V, z)) q16 hk
      refine or_aload_n E rfl dX11_reasonAgainst_21 ?_
      refine ot_getC E fl_11_7 dX11_reasonAgainst_22 h_m.1 rfl ?_
      refine or_bipush (v := nI 10) E rfl dX11_reasonAgainst_25 ?_
      refine ot_iald (j := 10) E dX11_reasonAgainst_27 h_m.2.1 rfl rfl (by omega) (Nat.le_of_ble_eq_true rfl) ?_
      refine or_iload_n E rfl dX11_reasonAgainst_28 ?_
      refine or_icmp_ne 34 E dX11_reasonAgainst_29 rfl (fun q29 => ?_) (fun q29 => ?_)
      · replace hk := ite_n (P := fun r : Int32 => K (some (.int (r))) (S, I, V, z)) q29 hk
        refine or_aload_n E rfl dX11_reasonAgainst_34 ?_
        refine or_iload_n E rfl dX11_reasonAgainst_35 ?_
        refine or_iconst (v := nI 0) E rfl dX11_reasonAgainst_36 ?_
        refine or_cV2r (cM_of  h_m (by omega)) E lk_11_86 dX11_reasonAgainst_37 h_m.1 rfl rfl (by decide) (by decide) ⟨Nat.le_refl _, Nat.le_refl _⟩ (Nat.le_of_ble_eq_true rfl) ?_
        refine or_aload_n E rfl dX11_reasonAgainst_40 ?_
        refine or_aload_n E rfl dX11_reasonAgainst_41 ?_
        refine or_cV0r (cM_bidNext  h_m (fun _ => ⟨by assumption, h8b⟩)) E lk_11_109 dX11_reasonAgainst_42 h_m.1 rfl rfl (by decide) (by decide) ⟨Nat.le_refl _, Nat.le_refl _⟩ (Nat.le_of_ble_eq_true rfl) ?_
        refine or_cV1r (cM_costOfPrice  h_m ) E lk_11_113 dX11_reasonAgainst_45 h_m.1 rfl rfl (by decide) (by decide) ⟨Nat.le_refl _, Nat.le_refl _⟩ (Nat.le_of_ble_eq_true rfl) ?_
        refine or_icmp_ge 55 E dX11_reasonAgainst_48 rfl (fun q48 => ?_) (fun q48 => ?_)
        · replace hk := ite_p (P := fun r : Int32 => K (some (.int (r))) (S, I, V, z)) q48 hk
          refine or_iconst (v := nI 0) E rfl dX11_reasonAgainst_55 ?_
          exact or_iret E F dX11_reasonAgainst_56 (Nat.le_refl _) (Nat.le_refl _) hk
        · replace hk := ite_n (P := fun r : Int32 => K (some (.int (r))) (S, I, V, z)) q48 hk
          refine or_iconst (v := nI 4) E rfl dX11_reasonAgainst_51 ?_
          refine or_goto 56 E dX11_reasonAgainst_52 rfl ?_
          exact or_iret E F dX11_reasonAgainst_56 (Nat.le_refl _) (Nat.le_refl _) hk
      · replace hk := ite_p (P := fun r : Int32 => K (some (.int (r))) (S, I, V, z)) q29 hk
        refine or_iconst (v := nI 3) E rfl dX11_reasonAgainst_32 ?_
        exact or_iret E F dX11_reasonAgainst_33 (Nat.le_refl _) (Nat.le_refl _) hk
    · replace hk := ite_n (P := fun r : Int32 => K (some (.int (r))) (S, I, V, z)) q16 hk
      refine or_iconst (v := nI 2) E rfl dX11_reasonAgainst_19 ?_
      exact or_iret E F dX11_reasonAgainst_20 (Nat.le_refl _) (Nat.le_refl _) hk
  · replace hk := ite_n (P := fun r : Int32 => K (some (.int (r))) (S, I, V, z)) (bz_neg q4) hk
    refine or_iconst (v := nI 1) E rfl dX11_reasonAgainst_7 ?_
    exact or_iret E F dX11_reasonAgainst_8 (Nat.le_refl _) (Nat.le_refl _) hk
def M_nodNow (m : Nat) (b : Nat) (I : ow_I) : Int32 × ow_I :=
  lt (ow_u I (m + 1) 9 (M_bidNext m I)) (fun (I1 : ow_I) => lt (ow_u I1 (m + 1) 10 (nI b)) (fun (I2 : ow_I) => lt (ow_u I2 (m + 1) 11 (nI 0)) (fun (I3 : ow_I) => lt (M_put m b 4 (M_of m b 4 I3 + (nI 1)) I3) (fun (I4 : ow_I) => (I4 (m + 1) 9, I4)))))
set_option maxRecDepth 100000 in
set_option maxHeartbeats 400000 in
theorem cM_nodNow {S : Nat → Option ow_Sh} {I : ow_I} {V : Nat → Nat → Value} {z : Nat} {m : Nat} {b : Nat} (h_m : md_S S m) (hb : b < 6) (h8 : ¬ 0 ≤ I (m + 1) 10 → 0 ≤ I (m + 1) 8 ∧ tn (I (m + 1) 8) < 20) : ow_Cf yX11_nodNow cX11_nodNow 2 (some .int) 2 [.ref m, .int (nI b)] (S, I, V, z) (some (.int ((M_nodNow m b I).1))) (S, (M_nodNow m b I).2, V, z) := by
  refine ow_Cf.of rfl (Nat.le_of_ble_eq_true rfl) (fun X K E F hk => ?_)
  have E : ow_E X RX11 cX11_nodNow 2 (ow_rm 2 0 0) := E
  refine or_lv [(0, .ref m), (1, .int (nI b))] rfl ?_
  dsimp only [M_nodNow] at hk
  refine or_aload_n E rfl dX11_nodNow_0 ?_
  refine ot_getC E fl_11_7 dX11_nodNow_1 h_m.1 rfl ?_
  refine or_bipush (v := nI 9) E rfl dX11_nodNow_4 ?_
  refine or_aload_n E rfl dX11_nodNow_6 ?_
  refine or_cV0r (cM_bidNext  h_m h8) E lk_11_109 dX11_nodNow_7 h_m.1 rfl rfl (by decide) (by decide) ⟨Nat.le_refl _, Nat.le_refl _⟩ (Nat.le_of_ble_eq_true rfl) ?_
  refine ot_iast (j := 9) E dX11_nodNow_10 h_m.2.1 rfl rfl (by omega) (Nat.le_of_ble_eq_true rfl) ?_
  obtain ⟨I1, hI1⟩ : ∃ y_ : ow_I, y_ = ow_u I (m + 1) 9 (M_bidNext m I) := ⟨_, rfl⟩
  replace hk := lt_k (P := fun r : Int32 × ow_I => K (some (.int ((r).1))) (S, (r).2, V, z)) hI1 hk
  refine or_nmI hI1 ?_
  refine or_aload_n E rfl dX11_nodNow_11 ?_
  refine ot_getC E fl_11_7 dX11_nodNow_12 h_m.1 rfl ?_
  refine or_bipush (v := nI 10) E rfl dX11_nodNow_15 ?_
  refine or_iload_n E rfl dX11_nodNow_17 ?_
  refine ot_iast (j := 10) E dX11_nodNow_18 h_m.2.1 rfl rfl (by omega) (Nat.le_of_ble_eq_true rfl) ?_
  obtain ⟨I2, hI2⟩ : ∃ y_ : ow_I, y_ = ow_u I1 (m + 1) 10 (nI b) := ⟨_, rfl⟩
  replace hk := lt_k (P := fun r : Int32 × ow_I => K (some (.int ((r).1))) (S, (r).2, V, z)) hI2 hk
  refine or_nmI hI2 ?_
  refine or_aload_n E rfl dX11_nodNow_19 ?_
  refine ot_getC E fl_11_7 dX11_nodNow_20 h_m.1 rfl ?_
  refine or_bipush (v := nI 11) E rfl dX11_nodNow_23 ?_
  refine or_iconst (v := nI 0) E rfl dX11_nodNow_25 ?_
  refine ot_iast (j := 11) E dX11_nodNow_26 h_m.2.1 rfl rfl (by omega) (Nat.le_of_ble_eq_true rfl) ?_
  obtain ⟨I3, hI3⟩ : ∃ y_ : ow_I, y_ = ow_u I2 (m + 1) 11 (nI 0) := ⟨_, rfl⟩
  replace hk := lt_k (P := fun r : Int32 × ow_I => K (some (.int ((r).1))) (S, (r).2, V, z)) hI3 hk
  refine or_nmI hI3 ?_
  refine or_aload_n E rfl dX11_nodNow_27 ?_
  refine or_iload_n E rfl dX11_nodNow_28 ?_
  refine or_iconst (v := nI 4) E rfl dX11_nodNow_29 ?_
  refine or_aload_n E rfl dX11_nodNow_30 ?_
  refine or_iload_n E rfl dX11_nodNow_31 ?_
  refine or_iconst (v := nI 4) E rfl dX11_nodNow_32 ?_
  refine or_cV2r (cM_of  h_m (by omega)) E lk_11_86 dX11_nodNow_33 h_m.1 rfl rfl (by decide) (by decide) ⟨Nat.le_refl _, Nat.le_refl _⟩ (Nat.le_of_ble_eq_true rfl) ?_
  refine or_iconst (v := nI 1) E rfl dX11_nodNow_36 ?_
  refine or_iadd E dX11_nodNow_37 ?_
  refine or_cV3v (cM_put  h_m (by omega)) E lk_11_70 dX11_nodNow_38 h_m.1 rfl rfl (by decide) (by decide) ⟨Nat.le_refl _, Nat.le_refl _⟩ (Nat.le_of_ble_eq_true rfl) ?_
  obtain ⟨I4, hI4⟩ : ∃ y_ : ow_I, y_ = M_put m b 4 (M_of m b 4 I3 + (nI 1)) I3 := ⟨_, rfl⟩
  replace hk := lt_k (P := fun r : Int32 × ow_I => K (some (.int ((r).1))) (S, (r).2, V, z)) hI4 hk
  refine or_nmI hI4 ?_
  refine or_aload_n E rfl dX11_nodNow_41 ?_
  refine ot_getC E fl_11_7 dX11_nodNow_42 h_m.1 rfl ?_
  refine or_bipush (v := nI 9) E rfl dX11_nodNow_45 ?_
  refine ot_iald (j := 9) E dX11_nodNow_47 h_m.2.1 rfl rfl (by omega) (Nat.le_of_ble_eq_true rfl) ?_
  try dsimp only at hk
  exact or_iret E F dX11_nodNow_48 (Nat.le_refl _) (Nat.le_refl _) hk
