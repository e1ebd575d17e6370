theorem fl_11_21 : ow_fl RX11 21 11 7 := ⟨_, rfl, by decide, ow_T_in 1642 (by decide +kernel) (by decide +kernel), ow_ok11⟩
theorem fl_11_34 : ow_fl RX11 34 11 19 := ⟨_, rfl, by decide, ow_T_in 1654 (by decide +kernel) (by decide +kernel), ow_ok11⟩
theorem fl_11_177 : ow_fl RX11 177 11 6 := ⟨_, rfl, by decide, ow_T_in 1641 (by decide +kernel) (by decide +kernel), ow_ok11⟩
theorem fl_11_208 : ow_fl RX11 208 11 15 := ⟨_, rfl, by decide, ow_T_in 1650 (by decide +kernel) (by decide +kernel), ow_ok11⟩
theorem fw_11_6 : ∃ r : vw_C, ow_cl[11]? = some r ∧ (r.2.1 6).2.2.2 = false ∧ parseFieldDescriptor (r.2.1 6).2.2.1 = some .int := ⟨_, rfl, rfl, by decide +kernel⟩
theorem fw_11_7 : ∃ r : vw_C, ow_cl[11]? = some r ∧ (r.2.1 7).2.2.2 = false ∧ parseFieldDescriptor (r.2.1 7).2.2.1 = some .int := ⟨_, rfl, rfl, by decide +kernel⟩
theorem fw_11_15 : ∃ r : vw_C, ow_cl[11]? = some r ∧ (r.2.1 15).2.2.2 = false ∧ parseFieldDescriptor (r.2.1 15).2.2.1 = some .int := ⟨_, rfl, rfl, by decide +kernel⟩
theorem lk_11_205 : ow_lv RX11 205 yX11_isWordNumber cX11_isWordNumber 5 (some .boolean) 1 := ⟨ow_T_in 1773 (by decide +kernel) (by decide +kernel), ow_T_in 1775 (by decide +kernel) (by decide +kernel), ow_T_sel 55 (by decide +kernel) (by decide +kernel), ow_T_in 19 (by decide +kernel) (by decide +kernel), ow_T_in 1776 (by decide +kernel) (by decide +kernel), ⟨by decide +kernel, by decide +kernel, by decide +kernel⟩⟩
theorem lk_11_211 : ow_lv RX11 211 yX11_readToken cX11_readToken 1 none 0 := ⟨ow_T_in 1744 (by decide +kernel) (by decide +kernel), ow_T_in 1746 (by decide +kernel) (by decide +kernel), ow_T_sel 48 (by decide +kernel) (by decide +kernel), ow_T_in 19 (by decide +kernel) (by decide +kernel), ow_T_in 1747 (by decide +kernel) (by decide +kernel), ⟨by decide +kernel, by decide +kernel, by decide +kernel⟩⟩
def M_isWordNumber_L20 (m : Nat) (w : Nat) : Nat → ow_I → Nat → Nat → Bool
  | 0, I, _, _ => default
  | n + 1, I, l, i => if 8 ≤ i then true else if l ≤ i then if I (m + 7) (8 * w + i) = nI 32 then M_isWordNumber_L20 m w n I l (i + 1) else false else if I (m + 3) (tn (I m 10) + i) = I (m + 7) (8 * w + i) then M_isWordNumber_L20 m w n I l (i + 1) else false
def M_isWordNumber (m : Nat) (w : Nat) (I : ow_I) : Bool :=
  if (tn (I m 8)) - (tn (I m 10)) ≤ 8 then M_isWordNumber_L20 m w 9 I ((tn (I m 8)) - (tn (I m 10))) 0 else false
set_option maxRecDepth 100000 in
set_option maxHeartbeats 400000 in
theorem cM_isWordNumber {S : Nat → Option ow_Sh} {I : ow_I} {V : Nat → Nat → Value} {z : Nat} {m : Nat} {w : Nat} (h_m : md_S S m) (hwn : w < 8) (hw : md_W m I) : ow_Cf yX11_isWordNumber cX11_isWordNumber 5 (some .boolean) 0 [.ref m, .int (nI w)] (S, I, V, z) (some (.int (bi (M_isWordNumber m w I)))) (S, I, V, z) := by
  refine ow_Cf.of rfl (Nat.le_of_ble_eq_true rfl) (fun X K E F hk => ?_)
  have E : ow_E X RX11 cX11_isWordNumber 5 (ow_rm 0 0 0) := E
  refine or_lv [(0, .ref m), (1, .int (nI w))] rfl ?_
  have z1 := hw.1.1
  have z2 := hw.1.2
  have L20 : ∀ (n : Nat) (I : ow_I) (l : Nat) (i : Nat) (hwn : w < 8) (hi : i ≤ 8) (hl : l ≤ 8) (ha : 0 ≤ I m 10) (hab : tn (I m 10) + l ≤ 500) (hm : 8 - i < n) (hk : K (some (.int (bi (M_isWordNumber_L20 m w n I l i)))) (S, I, V, z)), ow_W X 0 0 (S, I, V, z) 20 [(0, .ref m), (1, .int (nI w)), (2, .int (nI l)), (3, .int (nI i))] [] := by
    intro n
    induction n with
    | zero => intro I l i hwn hi hl ha hab hm; omega
    | succ n ih =>
      intro I l i hwn hi hl ha hab hm hk
      dsimp only [M_isWordNumber_L20] at hk
      refine or_iload_n E rfl dX11_isWordNumber_20 ?_
      refine or_bipush (v := nI 8) E rfl dX11_isWordNumber_21 ?_
      refine or_icmp_geN 78 E dX11_isWordNumber_23 rfl (by omega) (by omega) (fun q23 => ?_) (fun q23 => ?_)
      · replace hk := ite_p (P := fun r : Bool => K (some (.int (bi (r)))) (S, I, V, z)) q23 hk
        refine or_iconst (v := nI 1) E rfl dX11_isWordNumber_78 ?_
        exact or_zret E F dX11_isWordNumber_79 (Nat.le_refl _) (Nat.le_refl _) (bi_nar true) hk
      · replace hk := ite_n (P := fun r : Bool => K (some (.int (bi (r)))) (S, I, V, z)) q23 hk
        refine or_aload_n E rfl dX11_isWordNumber_26 ?_
        refine ot_getC E fl_11_34 dX11_isWordNumber_27 h_m.1 rfl ?_
        refine or_bipush (v := nI 8) E rfl dX11_isWordNumber_30 ?_
        refine or_iload_n E rfl dX11_isWordNumber_32 ?_
        refine or_imulN E dX11_isWordNumber_33 ?_
        refine or_iload_n E rfl dX11_isWordNumber_34 ?_
        refine or_iaddN E dX11_isWordNumber_35 ?_
        refine ot_cald (j := 8 * w + i) E dX11_isWordNumber_36 h_m.2.2.2.2.2.2.2 rfl rfl (by omega) (Nat.le_of_ble_eq_true rfl) ?_
        refine or_istore E dX11_isWordNumber_37 (by decide) ?_
        refine or_iload_n E rfl dX11_isWordNumber_39 ?_
        refine or_iload_n E rfl dX11_isWordNumber_40 ?_
        refine or_icmp_geN 63 E dX11_isWordNumber_41 rfl (by omega) (by omega) (fun q41 => ?_) (fun q41 => ?_)
        · replace hk := ite_p (P := fun r : Bool => K (some (.int (bi (r)))) (S, I, V, z)) q41 hk
          refine or_iload E rfl dX11_isWordNumber_63 ?_
          refine or_bipush (v := nI 32) E rfl dX11_isWordNumber_65 ?_
          refine or_icmp_eq 72 E dX11_isWordNumber_67 rfl (fun q67 => ?_) (fun q67 => ?_)
          · replace hk := ite_p (P := fun r : Bool => K (some (.int (bi (r)))) (S, I, V, z)) q67 hk
            refine or_iincN (c := 1) E dX11_isWordNumber_72 rfl rfl (by decide) ?_
            refine or_goto 20 E dX11_isWordNumber_75 rfl ?_
            refine or_lv _ ?_ (ih _ _ _ hwn (by omega) hl ha hab (by omega) hk)
            rfl
          · replace hk := ite_n (P := fun r : Bool => K (some (.int (bi (r)))) (S, I, V, z)) q67 hk
            refine or_iconst (v := nI 0) E rfl dX11_isWordNumber_70 ?_
            exact or_zret E F dX11_isWordNumber_71 (Nat.le_refl _) (Nat.le_refl _) (bi_nar false) hk
        · replace hk := ite_n (P := fun r : Bool => K (some (.int (bi (r)))) (S, I, V, z)) q41 hk
          refine or_aload_n E rfl dX11_isWordNumber_44 ?_
          refine ot_getC E fl_11_17 dX11_isWordNumber_45 h_m.1 rfl ?_
          refine or_aload_n E rfl dX11_isWordNumber_48 ?_
          refine ot_getI E fl_11_193 dX11_isWordNumber_49 h_m.1 rfl ?_
          refine or_top (nI_tn ha).symm ?_
          refine or_iload_n E rfl dX11_isWordNumber_52 ?_
          refine or_iaddN E dX11_isWordNumber_53 ?_
          refine ot_bald (j := tn (I m 10) + i) E dX11_isWordNumber_54 h_m.2.2.2.1 rfl rfl (by omega) (Nat.le_of_ble_eq_true rfl) ?_
          refine or_iload E rfl dX11_isWordNumber_55 ?_
          refine or_icmp_eq 72 E dX11_isWordNumber_57 rfl (fun q57 => ?_) (fun q57 => ?_)
          · replace hk := ite_p (P := fun r : Bool => K (some (.int (bi (r)))) (S, I, V, z)) q57 hk
            refine or_iincN (c := 1) E dX11_isWordNumber_72 rfl rfl (by decide) ?_
            refine or_goto 20 E dX11_isWordNumber_75 rfl ?_
            refine or_lv _ ?_ (ih _ _ _ hwn (by omega) hl ha hab (by omega) hk)
            rfl
          · replace hk := ite_n (P := fun r : Bool => K (some (.int (bi (r)))) (S, I, V, z)) q57 hk
            refine or_goto 70 E dX11_isWordNumber_60 rfl ?_
            refine or_iconst (v := nI 0) E rfl dX11_isWordNumber_70 ?_
            exact or_zret E F dX11_isWordNumber_71 (Nat.le_refl _) (Nat.le_refl _) (bi_nar false) hk
  dsimp only [M_isWordNumber] at hk
  refine or_aload_n E rfl dX11_isWordNumber_0 ?_
  refine ot_getI E fl_11_186 dX11_isWordNumber_1 h_m.1 rfl ?_
  refine or_top (nI_tn hw.1.2.1).symm ?_
  refine or_aload_n E rfl dX11_isWordNumber_4 ?_
  refine ot_getI E fl_11_193 dX11_isWordNumber_5 h_m.1 rfl ?_
  refine or_top (nI_tn hw.2.1).symm ?_
  refine or_isubN E dX11_isWordNumber_8 hw.2.2 ?_
  refine or_istore_n E dX11_isWordNumber_9 (by decide) ?_
  refine or_iload_n E rfl dX11_isWordNumber_10 ?_
  refine or_bipush (v := nI 8) E rfl dX11_isWordNumber_11 ?_
  refine or_icmp_leN 18 E dX11_isWordNumber_13 rfl (by omega) (by omega) (fun q13 => ?_) (fun q13 => ?_)
  · replace hk := ite_p (P := fun r : Bool => K (some (.int (bi (r)))) (S, I, V, z)) q13 hk
    refine or_iconst (v := nI 0) E rfl dX11_isWordNumber_18 ?_
    refine or_istore_n E dX11_isWordNumber_19 (by decide) ?_
    refine or_lv _ ?_ (L20 9 _ _ _ hwn (by omega) (by omega) hw.2.1 (by have := hw.1.1; have := hw.1.2; have := hw.2.2; omega) (by omega) hk)
    rfl
  · replace hk := ite_n (P := fun r : Bool => K (some (.int (bi (r)))) (S, I, V, z)) q13 hk
    refine or_iconst (v := nI 0) E rfl dX11_isWordNumber_16 ?_
    exact or_zret E F dX11_isWordNumber_17 (Nat.le_refl _) (Nat.le_refl _) (bi_nar false) hk
def M_wordOf_L13 (m : Nat) : Nat → ow_I → Nat → Int32
  | 0, I, _ => default
  | n + 1, I, i => if 8 ≤ i then nI 8 else if M_isWordNumber m i I then nI i else M_wordOf_L13 m n I (i + 1)
def M_wordOf (m : Nat) (I : ow_I) : Int32 :=
  if I m 9 = nI 1 then M_wordOf_L13 m 9 I 0 else nI 8
set_option maxRecDepth 100000 in
set_option maxHeartbeats 400000 in
theorem cM_wordOf {S : Nat → Option ow_Sh} {I : ow_I} {V : Nat → Nat → Value} {z : Nat} {m : Nat} (h_m : md_S S m) (hw : md_W m I) : ow_Cf yX11_wordOf cX11_wordOf 2 (some .int) 1 [.ref m] (S, I, V, z) (some (.int (M_wordOf m I))) (S, I, V, z) := by
  refine ow_Cf.of rfl (Nat.le_of_ble_eq_true rfl) (fun X K E F hk => ?_)
  have E : ow_E X RX11 cX11_wordOf 2 (ow_rm 1 0 0) := E
  refine or_lv [(0, .ref m)] rfl ?_
  have L13 : ∀ (n : Nat) (I : ow_I) (i : Nat) (hw : md_W m I) (hi : i ≤ 8) (hm : 8 - i < n) (hk : K (some (.int (M_wordOf_L13 m n I i))) (S, I, V, z)), ow_W X 0 0 (S, I, V, z) 13 [(0, .ref m), (1, .int (nI i))] [] := by
    intro n
    induction n with
    | zero => intro I i hw hi hm; omega
    | succ n ih =>
      intro I i hw hi hm hk
      dsimp only [M_wordOf_L13] at hk
      refine or_iload_n E rfl dX11_wordOf_13 ?_
      refine or_bipush (v := nI 8) E rfl dX11_wordOf_14 ?_
      refine or_icmp_geN 35 E dX11_wordOf_16 rfl (by omega) (by omega) (fun q16 => ?_) (fun q16 => ?_)
      · replace hk := ite_p (P := fun r : Int32 => K (some (.int (r))) (S, I, V, z)) q16 hk
        refine or_bipush (v := nI 8) E rfl dX11_wordOf_35 ?_
        exact or_iret E F dX11_wordOf_37 (Nat.le_refl _) (Nat.le_refl _) hk
      · replace hk := ite_n (P := fun r : Int32 => K (some (.int (r))) (S, I, V, z)) q16 hk
        refine or_aload_n E rfl dX11_wordOf_19 ?_
        refine or_iload_n E rfl dX11_wordOf_20 ?_
        refine or_cV1r (cM_isWordNumber  h_m (by omega) hw) E lk_11_205 dX11_wordOf_21 h_m.1 rfl rfl (by decide) (by decide) ⟨Nat.le_refl _, Nat.le_refl _⟩ (Nat.le_of_ble_eq_true rfl) ?_
        refine or_if_eqZ 29 E dX11_wordOf_24 rfl (fun q24 => ?_) (fun q24 => ?_)
        · replace hk := ite_n (P := fun r : Int32 => K (some (.int (r))) (S, I, V, z)) (bz_neg q24) hk
          refine or_iincN (c := 1) E dX11_wordOf_29 rfl rfl (by decide) ?_
          refine or_goto 13 E dX11_wordOf_32 rfl ?_
          refine or_lv _ ?_ (ih _ _ hw (by omega) (by omega) hk)
          rfl
        · replace hk := ite_p (P := fun r : Int32 => K (some (.int (r))) (S, I, V, z)) q24 hk
          refine or_iload_n E rfl dX11_wordOf_27 ?_
          exact or_iret E F dX11_wordOf_28 (Nat.le_refl _) (Nat.le_refl _) hk
  dsimp only [M_wordOf] at hk
  refine or_aload_n E rfl dX11_wordOf_0 ?_
  refine ot_getI E fl_11_196 dX11_wordOf_1 h_m.1 rfl ?_
  refine or_iconst (v := nI 1) E rfl dX11_wordOf_4 ?_
  refine or_icmp_eq 11 E dX11_wordOf_5 rfl (fun q5 => ?_) (fun q5 => ?_)
  · replace hk := ite_p (P := fun r : Int32 => K (some (.int (r))) (S, I, V, z)) q5 hk
    refine or_iconst (v := nI 0) E rfl dX11_wordOf_11 ?_
    refine or_istore_n E dX11_wordOf_12 (by decide) ?_
    refine or_lv _ ?_ (L13 9 _ _ hw (by omega) (by omega) hk)
    rfl
  · replace hk := ite_n (P := fun r : Int32 => K (some (.int (r))) (S, I, V, z)) q5 hk
    refine or_bipush (v := nI 8) E rfl dX11_wordOf_8 ?_
    exact or_iret E F dX11_wordOf_10 (Nat.le_refl _) (Nat.le_refl _) hk
def M_fails (m : Nat) (c : Int32) (I : ow_I) : Bool × ow_I :=
  lt (ow_u I m 6 c) (fun (I1 : ow_I) => lt (ow_u I1 m 7 (I1 m 10)) (fun (I2 : ow_I) => (true, I2)))
set_option maxRecDepth 100000 in
set_option maxHeartbeats 400000 in
theorem cM_fails {S : Nat → Option ow_Sh} {I : ow_I} {V : Nat → Nat → Value} {z : Nat} {m : Nat} {c : Int32} (h_m : md_S S m)  : ow_Cf yX11_fails cX11_fails 2 (some .boolean) 0 [.ref m, .int c] (S, I, V, z) (some (.int (bi ((M_fails m c I).1)))) (S, (M_fails m c I).2, V, z) := by
  refine ow_Cf.of rfl (Nat.le_of_ble_eq_true rfl) (fun X K E F hk => ?_)
  have E : ow_E X RX11 cX11_fails 2 (ow_rm 0 0 0) := E
  refine or_lv [(0, .ref m), (1, .int c)] rfl ?_
  dsimp only [M_fails] at hk
  refine or_aload_n E rfl dX11_fails_0 ?_
  refine or_iload_n E rfl dX11_fails_1 ?_
  refine ot_putI E fl_11_177 fw_11_6 dX11_fails_2 h_m.1 rfl ?_
  obtain ⟨I1, hI1⟩ : ∃ y_ : ow_I, y_ = ow_u I m 6 c := ⟨_, rfl⟩
  replace hk := lt_k (P := fun r : Bool × ow_I => K (some (.int (bi ((r).1)))) (S, (r).2, V, z)) hI1 hk
  refine or_nmI hI1 ?_
  refine or_aload_n E rfl dX11_fails_5 ?_
  refine or_aload_n E rfl dX11_fails_6 ?_
  refine ot_getI E fl_11_193 dX11_fails_7 h_m.1 rfl ?_
  refine ot_putI E fl_11_21 fw_11_7 dX11_fails_10 h_m.1 rfl ?_
  obtain ⟨I2, hI2⟩ : ∃ y_ : ow_I, y_ = ow_u I1 m 7 (I1 m 10) := ⟨_, rfl⟩
  replace hk := lt_k (P := fun r : Bool × ow_I => K (some (.int (bi ((r).1)))) (S, (r).2, V, z)) hI2 hk
  refine or_nmI hI2 ?_
  refine or_iconst (v := nI 1) E rfl dX11_fails_13 ?_
  try dsimp only at hk
  exact or_zret E F dX11_fails_14 (Nat.le_refl _) (Nat.le_refl _) (bi_nar true) hk
def M_beginText (m : Nat) (I : ow_I) : ow_I :=
  lt (ow_u I m 8 (nI 0)) (fun (I1 : ow_I) => lt (ow_u I1 m 6 (nI 0)) (fun (I2 : ow_I) => lt (ow_u I2 m 7 ((-1))) (fun (I3 : ow_I) => lt (ow_u I3 m 15 (nI 0)) (fun (I4 : ow_I) => lt (M_readToken m I4) (fun (I5 : ow_I) => I5)))))
set_option maxRecDepth 100000 in
set_option maxHeartbeats 400000 in
theorem cM_beginText {S : Nat → Option ow_Sh} {I : ow_I} {V : Nat → Nat → Value} {z : Nat} {m : Nat} (h_m : md_S S m) (hl : 0 ≤ I m 5) (hlb : tn (I m 5) ≤ 500) : ow_Cf yX11_beginText cX11_beginText 1 none 4 [.ref m] (S, I, V, z) none (S, M_beginText m I, V, z) := by
  refine ow_Cf.of rfl (Nat.le_of_ble_eq_true rfl) (fun X K E F hk => ?_)
  have E : ow_E X RX11 cX11_beginText 1 (ow_rm 4 0 0) := E
  refine or_lv [(0, .ref m)] rfl ?_
  dsimp only [M_beginText] at hk
  refine or_aload_n E rfl dX11_beginText_0 ?_
  refine or_iconst (v := nI 0) E rfl dX11_beginText_1 ?_
  refine ot_putI E fl_11_186 fw_11_8 dX11_beginText_2 h_m.1 rfl ?_
  obtain ⟨I1, hI1⟩ : ∃ y_ : ow_I, y_ = ow_u I m 8 (nI 0) := ⟨_, rfl⟩
  replace hk := lt_k (P := fun r : ow_I => K none (S, r, V, z)) hI1 hk
  refine or_nmI hI1 ?_
  refine or_aload_n E rfl dX11_beginText_5 ?_
  refine or_iconst (v := nI 0) E rfl dX11_beginText_6 ?_
  refine ot_putI E fl_11_177 fw_11_6 dX11_beginText_7 h_m.1 rfl ?_
  obtain ⟨I2, hI2⟩ : ∃ y_ : ow_I, y_ = ow_u I1 m 6 (nI 0) := ⟨_, rfl⟩
  replace hk := lt_k (P := fun r : ow_I => K none (S, r, V, z)) hI2 hk
  refine or_nmI hI2 ?_
  refine or_aload_n E rfl dX11_beginText_10 ?_
  refine or_iconst (v := -1) E rfl dX11_beginText_11 ?_
  refine ot_putI E fl_11_21 fw_11_7 dX11_beginText_12 h_m.1 rfl ?_
  obtain ⟨I3, hI3⟩ : ∃ y_ : ow_I, y_ = ow_u I2 m 7 ((-1)) := ⟨_, rfl⟩
  replace hk := lt_k (P := fun r : ow_I => K none (S, r, V, z)) hI3 hk
  refine or_nmI hI3 ?_
  refine or_aload_n E rfl dX11_beginText_15 ?_
  refine or_iconst (v := nI 0) E rfl dX11_beginText_16 ?_
  refine ot_putI E fl_11_208 fw_11_15 dX11_beginText_17 h_m.1 rfl ?_
  obtain ⟨I4, hI4⟩ : ∃ y_ : ow_I, y_ = ow_u I3 m 15 (nI 0) := ⟨_, rfl⟩
  replace hk := lt_k (P := fun r : ow_I => K none (S, r, V, z)) hI4 hk
  refine or_nmI hI4 ?_
  refine or_aload_n E rfl dX11_beginText_20 ?_
  refine or_cV0v (cM_readToken  h_m (by subst hI4 hI3 hI2 hI1; unfold md_T; simp (disch := omega) only [ow_u_k, ow_u_s]; exact ⟨⟨hl, hlb⟩, nI_ge0 (by decide), by rw [tn_nI (by decide)]; omega⟩)) E lk_11_211 dX11_beginText_21 h_m.1 rfl rfl (by decide) (by decide) ⟨Nat.le_refl _, Nat.le_refl _⟩ (Nat.le_of_ble_eq_true rfl) ?_
  obtain ⟨I5, hI5⟩ : ∃ y_ : ow_I, y_ = M_readToken m I4 := ⟨_, rfl⟩
  replace hk := lt_k (P := fun r : ow_I => K none (S, r, V, z)) hI5 hk
  refine or_nmI hI5 ?_
  exact or_vret E F dX11_beginText_24 (Nat.le_refl _) (Nat.le_refl _) hk
