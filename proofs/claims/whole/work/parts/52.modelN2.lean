theorem fl_11_31 : ow_fl RX11 31 11 16 := ⟨_, rfl, by decide, ow_T_in 1651 (by decide +kernel) (by decide +kernel), ow_ok11⟩
theorem fl_11_320 : ow_fl RX11 320 11 17 := ⟨_, rfl, by decide, ow_T_in 1652 (by decide +kernel) (by decide +kernel), ow_ok11⟩
theorem fw_11_17 : ∃ r : vw_C, ow_cl[11]? = some r ∧ (r.2.1 17).2.2.2 = false ∧ parseFieldDescriptor (r.2.1 17).2.2.1 = some .int := ⟨_, rfl, rfl, by decide +kernel⟩
def M_outputByte (m : Nat) (i : Int32) (I : ow_I) : Int32 × ow_I :=
  lt (ow_u I m 18 (nI 0)) (fun (I1 : ow_I) => if i < 0 then ((-1), I1) else if I1 m 17 ≤ i then ((-1), I1) else (I1 (m + 6) (tn i), I1))
set_option maxRecDepth 100000 in
set_option maxHeartbeats 400000 in
theorem cM_outputByte {S : Nat → Option ow_Sh} {I : ow_I} {V : Nat → Nat → Value} {z : Nat} {m : Nat} {i : Int32} (h_m : md_S S m) (hw : 0 ≤ I m 17) (hwb : tn (I m 17) ≤ 200) : ow_Cf yX11_outputByte cX11_outputByte 2 (some .int) 0 [.ref m, .int i] (S, I, V, z) (some (.int ((M_outputByte m i I).1))) (S, (M_outputByte m i I).2, V, z) := by
  refine ow_Cf.of rfl (Nat.le_of_ble_eq_true rfl) (fun X K E F hk => ?_)
  have E : ow_E X RX11 cX11_outputByte 2 (ow_rm 0 0 0) := E
  refine or_lv [(0, .ref m), (1, .int i)] rfl ?_
  dsimp only [M_outputByte] at hk
  refine or_aload_n E rfl dX11_outputByte_0 ?_
  refine or_iconst (v := nI 0) E rfl dX11_outputByte_1 ?_
  refine ot_putI E fl_11_54 fw_11_18 dX11_outputByte_2 h_m.1 rfl ?_
  obtain ⟨I1, hI1⟩ : ∃ y_ : ow_I, y_ = ow_u I m 18 (nI 0) := ⟨_, rfl⟩
  replace hk := lt_k (P := fun r : Int32 × ow_I => K (some (.int ((r).1))) (S, (r).2, V, z)) hI1 hk
  refine or_nmI hI1 ?_
  refine or_iload_n E rfl dX11_outputByte_5 ?_
  refine or_if_lt 26 E dX11_outputByte_6 rfl (fun q6 => ?_) (fun q6 => ?_)
  · replace hk := ite_p (P := fun r : Int32 × ow_I => K (some (.int ((r).1))) (S, (r).2, V, z)) q6 hk
    refine or_iconst (v := -1) E rfl dX11_outputByte_26 ?_
    try dsimp only at hk
    exact or_iret E F dX11_outputByte_27 (Nat.le_refl _) (Nat.le_refl _) hk
  · replace hk := ite_n (P := fun r : Int32 × ow_I => K (some (.int ((r).1))) (S, (r).2, V, z)) q6 hk
    refine or_iload_n E rfl dX11_outputByte_9 ?_
    refine or_aload_n E rfl dX11_outputByte_10 ?_
    refine ot_getI E fl_11_320 dX11_outputByte_11 h_m.1 rfl ?_
    refine or_icmp_ge 26 E dX11_outputByte_14 rfl (fun q14 => ?_) (fun q14 => ?_)
    · replace hk := ite_p (P := fun r : Int32 × ow_I => K (some (.int ((r).1))) (S, (r).2, V, z)) q14 hk
      refine or_iconst (v := -1) E rfl dX11_outputByte_26 ?_
      try dsimp only at hk
      exact or_iret E F dX11_outputByte_27 (Nat.le_refl _) (Nat.le_refl _) hk
    · replace hk := ite_n (P := fun r : Int32 × ow_I => K (some (.int ((r).1))) (S, (r).2, V, z)) q14 hk
      refine or_aload_n E rfl dX11_outputByte_17 ?_
      refine ot_getC E fl_11_31 dX11_outputByte_18 h_m.1 rfl ?_
      refine or_iload_n E rfl dX11_outputByte_21 ?_
      refine or_top (nI_tn (by subst hI1; exact (i_nlt q6))).symm ?_
      refine ot_bald (j := tn i) E dX11_outputByte_22 h_m.2.2.2.2.2.2.1 rfl rfl (by subst hI1; have h := i_lt q14; rw [ow_u_k _ _ _ _ (by decide)] at h; have := (lt_tn h (i_nlt q6)).2; omega) (Nat.le_of_ble_eq_true rfl) ?_
      refine or_goto 27 E dX11_outputByte_23 rfl ?_
      try dsimp only at hk
      exact or_iret E F dX11_outputByte_27 (Nat.le_refl _) (Nat.le_refl _) hk
def M_emit (m : Nat) (x : Int32) (I : ow_I) : ow_I :=
  lt (ow_u I (m + 6) (tn (I m 17)) x.toInt8.toInt32.toInt8.toInt32) (fun (I1 : ow_I) => lt (ow_u I1 m 17 (I1 m 17 + (nI 1))) (fun (I2 : ow_I) => I2))
set_option maxRecDepth 100000 in
set_option maxHeartbeats 400000 in
theorem cM_emit {S : Nat → Option ow_Sh} {I : ow_I} {V : Nat → Nat → Value} {z : Nat} {m : Nat} {x : Int32} (h_m : md_S S m) (hw : 0 ≤ I m 17) (hwb : tn (I m 17) < 200) : ow_Cf yX11_emit cX11_emit 2 none 0 [.ref m, .int x] (S, I, V, z) none (S, M_emit m x I, V, z) := by
  refine ow_Cf.of rfl (Nat.le_of_ble_eq_true rfl) (fun X K E F hk => ?_)
  have E : ow_E X RX11 cX11_emit 2 (ow_rm 0 0 0) := E
  refine or_lv [(0, .ref m), (1, .int x)] rfl ?_
  dsimp only [M_emit] at hk
  refine or_aload_n E rfl dX11_emit_0 ?_
  refine ot_getC E fl_11_31 dX11_emit_1 h_m.1 rfl ?_
  refine or_aload_n E rfl dX11_emit_4 ?_
  refine ot_getI E fl_11_320 dX11_emit_5 h_m.1 rfl ?_
  refine or_top (nI_tn hw).symm ?_
  refine or_iload_n E rfl dX11_emit_8 ?_
  refine or_i2b E dX11_emit_9 ?_
  refine ot_bast (j := tn (I m 17)) E dX11_emit_10 h_m.2.2.2.2.2.2.1 rfl rfl (by omega) (Nat.le_of_ble_eq_true rfl) ?_
  obtain ⟨I1, hI1⟩ : ∃ y_ : ow_I, y_ = ow_u I (m + 6) (tn (I m 17)) x.toInt8.toInt32.toInt8.toInt32 := ⟨_, rfl⟩
  replace hk := lt_k (P := fun r : ow_I => K none (S, r, V, z)) hI1 hk
  refine or_nmI hI1 ?_
  refine or_aload_n E rfl dX11_emit_11 ?_
  refine or_dup E rfl dX11_emit_12 ?_
  refine ot_getI E fl_11_320 dX11_emit_13 h_m.1 rfl ?_
  refine or_iconst (v := nI 1) E rfl dX11_emit_16 ?_
  refine or_iadd E dX11_emit_17 ?_
  refine ot_putI E fl_11_320 fw_11_17 dX11_emit_18 h_m.1 rfl ?_
  obtain ⟨I2, hI2⟩ : ∃ y_ : ow_I, y_ = ow_u I1 m 17 (I1 m 17 + (nI 1)) := ⟨_, rfl⟩
  replace hk := lt_k (P := fun r : ow_I => K none (S, r, V, z)) hI2 hk
  refine or_nmI hI2 ?_
  exact or_vret E F dX11_emit_21 (Nat.le_refl _) (Nat.le_refl _) hk
