theorem kq_1 {a : Nat} {I : ow_I} (hV : k_V a I) (h : ¬ I a 12 ≤ 0) : 0 ≤ I (a + 4) 0 ∧ tn (I (a + 4) 0) < 20 := by
  refine hV.2.2.2.2.2.1 0 ?_
  rcases Nat.eq_zero_or_pos (tn (I a 12)) with z | z
  · exact absurd (by rw [← nI_tn hV.2.2.1.1, z]; decide) h
  · exact z
theorem fl_6_12 : ow_fl RX6 12 6 0 := ⟨_, rfl, by decide, ow_T_in 154 (by decide +kernel) (by decide +kernel), ow_ok6⟩
theorem fl_6_22 : ow_fl RX6 22 6 2 := ⟨_, rfl, by decide, ow_T_in 159 (by decide +kernel) (by decide +kernel), ow_ok6⟩
theorem fl_6_27 : ow_fl RX6 27 6 7 := ⟨_, rfl, by decide, ow_T_in 170 (by decide +kernel) (by decide +kernel), ow_ok6⟩
theorem fl_6_33 : ow_fl RX6 33 6 9 := ⟨_, rfl, by decide, ow_T_in 174 (by decide +kernel) (by decide +kernel), ow_ok6⟩
theorem fl_6_37 : ow_fl RX6 37 6 11 := ⟨_, rfl, by decide, ow_T_in 178 (by decide +kernel) (by decide +kernel), ow_ok6⟩
theorem fl_6_41 : ow_fl RX6 41 6 13 := ⟨_, rfl, by decide, ow_T_in 182 (by decide +kernel) (by decide +kernel), ow_ok6⟩
theorem fl_6_44 : ow_fl RX6 44 6 14 := ⟨_, rfl, by decide, ow_T_in 184 (by decide +kernel) (by decide +kernel), ow_ok6⟩
theorem fl_6_47 : ow_fl RX6 47 6 15 := ⟨_, rfl, by decide, ow_T_in 186 (by decide +kernel) (by decide +kernel), ow_ok6⟩
theorem fl_6_50 : ow_fl RX6 50 6 16 := ⟨_, rfl, by decide, ow_T_in 188 (by decide +kernel) (by decide +kernel), ow_ok6⟩
theorem fl_6_59 : ow_fl RX6 59 6 3 := ⟨_, rfl, by decide, ow_T_in 162 (by decide +kernel) (by decide +kernel), ow_ok6⟩
theorem fl_6_62 : ow_fl RX6 62 6 4 := ⟨_, rfl, by decide, ow_T_in 164 (by decide +kernel) (by decide +kernel), ow_ok6⟩
theorem fl_6_65 : ow_fl RX6 65 6 5 := ⟨_, rfl, by decide, ow_T_in 166 (by decide +kernel) (by decide +kernel), ow_ok6⟩
theorem fl_6_68 : ow_fl RX6 68 6 6 := ⟨_, rfl, by decide, ow_T_in 168 (by decide +kernel) (by decide +kernel), ow_ok6⟩
theorem fl_6_89 : ow_fl RX6 89 6 12 := ⟨_, rfl, by decide, ow_T_in 180 (by decide +kernel) (by decide +kernel), ow_ok6⟩
theorem fl_6_102 : ow_fl RX6 102 1 7 := ⟨_, rfl, by decide, ow_T_in 125 (by decide +kernel) (by decide +kernel), ow_ok1⟩
theorem fl_6_134 : ow_fl RX6 134 1 5 := ⟨_, rfl, by decide, ow_T_in 119 (by decide +kernel) (by decide +kernel), ow_ok1⟩
theorem fl_6_160 : ow_fl RX6 160 2 0 := ⟨_, rfl, by decide, ow_T_in 74 (by decide +kernel) (by decide +kernel), ow_ok2⟩
theorem fl_6_184 : ow_fl RX6 184 2 4 := ⟨_, rfl, by decide, ow_T_in 84 (by decide +kernel) (by decide +kernel), ow_ok2⟩
theorem fl_6_252 : ow_fl RX6 252 2 3 := ⟨_, rfl, by decide, ow_T_in 81 (by decide +kernel) (by decide +kernel), ow_ok2⟩
theorem fl_6_255 : ow_fl RX6 255 1 8 := ⟨_, rfl, by decide, ow_T_in 128 (by decide +kernel) (by decide +kernel), ow_ok1⟩
theorem fl_6_258 : ow_fl RX6 258 1 9 := ⟨_, rfl, by decide, ow_T_in 131 (by decide +kernel) (by decide +kernel), ow_ok1⟩
theorem fl_6_261 : ow_fl RX6 261 1 6 := ⟨_, rfl, by decide, ow_T_in 122 (by decide +kernel) (by decide +kernel), ow_ok1⟩
theorem fw_6_4 : ∃ r : vw_C, ow_cl[6]? = some r ∧ (r.2.1 4).2.2.2 = false ∧ parseFieldDescriptor (r.2.1 4).2.2.1 = some .int := ⟨_, rfl, rfl, by decide +kernel⟩
theorem fw_6_5 : ∃ r : vw_C, ow_cl[6]? = some r ∧ (r.2.1 5).2.2.2 = false ∧ parseFieldDescriptor (r.2.1 5).2.2.1 = some .int := ⟨_, rfl, rfl, by decide +kernel⟩
theorem fw_6_6 : ∃ r : vw_C, ow_cl[6]? = some r ∧ (r.2.1 6).2.2.2 = false ∧ parseFieldDescriptor (r.2.1 6).2.2.1 = some .int := ⟨_, rfl, rfl, by decide +kernel⟩
theorem fw_6_8 : ∃ r : vw_C, ow_cl[6]? = some r ∧ (r.2.1 8).2.2.2 = false ∧ parseFieldDescriptor (r.2.1 8).2.2.1 = some .int := ⟨_, rfl, rfl, by decide +kernel⟩
theorem fw_6_12 : ∃ r : vw_C, ow_cl[6]? = some r ∧ (r.2.1 12).2.2.2 = false ∧ parseFieldDescriptor (r.2.1 12).2.2.1 = some .int := ⟨_, rfl, rfl, by decide +kernel⟩
theorem fw_6_13 : ∃ r : vw_C, ow_cl[6]? = some r ∧ (r.2.1 13).2.2.2 = false ∧ parseFieldDescriptor (r.2.1 13).2.2.1 = some .int := ⟨_, rfl, rfl, by decide +kernel⟩
theorem fw_6_14 : ∃ r : vw_C, ow_cl[6]? = some r ∧ (r.2.1 14).2.2.2 = false ∧ parseFieldDescriptor (r.2.1 14).2.2.1 = some .int := ⟨_, rfl, rfl, by decide +kernel⟩
theorem fw_6_15 : ∃ r : vw_C, ow_cl[6]? = some r ∧ (r.2.1 15).2.2.2 = false ∧ parseFieldDescriptor (r.2.1 15).2.2.1 = some .int := ⟨_, rfl, rfl, by decide +kernel⟩
theorem fw_6_16 : ∃ r : vw_C, ow_cl[6]? = some r ∧ (r.2.1 16).2.2.2 = false ∧ parseFieldDescriptor (r.2.1 16).2.2.1 = some .int := ⟨_, rfl, rfl, by decide +kernel⟩
theorem lk_6_98 : ow_lv RX6 98 yX6_hasBarrel cX6_hasBarrel 2 (some .boolean) 1 := ⟨ow_T_in 1086 (by decide +kernel) (by decide +kernel), ow_T_in 948 (by decide +kernel) (by decide +kernel), ow_T_in 949 (by decide +kernel) (by decide +kernel), ow_T_in 2 (by decide +kernel) (by decide +kernel), ow_T_in 950 (by decide +kernel) (by decide +kernel), ⟨by decide +kernel, by decide +kernel, by decide +kernel⟩⟩
theorem lk_6_115 : ow_lv RX6 115 yX2_begin cX2_begin 4 none 3 := ⟨ow_T_in 490 (by decide +kernel) (by decide +kernel), ow_T_in 491 (by decide +kernel) (by decide +kernel), ow_T_in 492 (by decide +kernel) (by decide +kernel), ow_T_in 4 (by decide +kernel) (by decide +kernel), ow_T_in 493 (by decide +kernel) (by decide +kernel), ⟨by decide +kernel, by decide +kernel, by decide +kernel⟩⟩
theorem lk_6_127 : ow_lv RX6 127 yX6_enqueue cX6_enqueue 2 none 1 := ⟨ow_T_in 530 (by decide +kernel) (by decide +kernel), ow_T_in 532 (by decide +kernel) (by decide +kernel), ow_T_sel 16 (by decide +kernel) (by decide +kernel), ow_T_in 2 (by decide +kernel) (by decide +kernel), ow_T_in 533 (by decide +kernel) (by decide +kernel), ⟨by decide +kernel, by decide +kernel, by decide +kernel⟩⟩
theorem lk_6_153 : ow_lv RX6 153 yX6_dequeue cX6_dequeue 4 none 1 := ⟨ow_T_in 1120 (by decide +kernel) (by decide +kernel), ow_T_in 1122 (by decide +kernel) (by decide +kernel), ow_T_sel 22 (by decide +kernel) (by decide +kernel), ow_T_in 2 (by decide +kernel) (by decide +kernel), ow_T_in 1123 (by decide +kernel) (by decide +kernel), ⟨by decide +kernel, by decide +kernel, by decide +kernel⟩⟩
theorem lk_6_156 : ow_lv RX6 156 yX6_hasBuyer cX6_hasBuyer 2 (some .boolean) 1 := ⟨ow_T_in 1046 (by decide +kernel) (by decide +kernel), ow_T_in 1018 (by decide +kernel) (by decide +kernel), ow_T_in 1019 (by decide +kernel) (by decide +kernel), ow_T_in 2 (by decide +kernel) (by decide +kernel), ow_T_in 1020 (by decide +kernel) (by decide +kernel), ⟨by decide +kernel, by decide +kernel, by decide +kernel⟩⟩
theorem lk_6_166 : ow_lv RX6 166 yX2_valueOf cX2_valueOf 2 (some .double) 1 := ⟨ow_T_in 1221 (by decide +kernel) (by decide +kernel), ow_T_in 1222 (by decide +kernel) (by decide +kernel), ow_T_in 1223 (by decide +kernel) (by decide +kernel), ow_T_in 4 (by decide +kernel) (by decide +kernel), ow_T_in 1224 (by decide +kernel) (by decide +kernel), ⟨by decide +kernel, by decide +kernel, by decide +kernel⟩⟩
theorem lk_6_170 : ow_lv RX6 170 yX8_isLow cX8_isLow 1 (some .boolean) 0 := ⟨ow_T_in 1045 (by decide +kernel) (by decide +kernel), ow_T_in 916 (by decide +kernel) (by decide +kernel), ow_T_in 917 (by decide +kernel) (by decide +kernel), ow_T_in 3 (by decide +kernel) (by decide +kernel), ow_T_in 918 (by decide +kernel) (by decide +kernel), ⟨by decide +kernel, by decide +kernel, by decide +kernel⟩⟩
theorem lk_6_173 : ow_lv RX6 173 yX6_nextPrice cX6_nextPrice 1 (some .int) 0 := ⟨ow_T_in 1047 (by decide +kernel) (by decide +kernel), ow_T_in 1030 (by decide +kernel) (by decide +kernel), ow_T_in 1031 (by decide +kernel) (by decide +kernel), ow_T_in 2 (by decide +kernel) (by decide +kernel), ow_T_in 1032 (by decide +kernel) (by decide +kernel), ⟨by decide +kernel, by decide +kernel, by decide +kernel⟩⟩
theorem lk_6_177 : ow_lv RX6 177 yX6_withFee cX6_withFee 2 (some .int) 1 := ⟨ow_T_in 1048 (by decide +kernel) (by decide +kernel), ow_T_in 1049 (by decide +kernel) (by decide +kernel), ow_T_in 1050 (by decide +kernel) (by decide +kernel), ow_T_in 2 (by decide +kernel) (by decide +kernel), ow_T_in 1051 (by decide +kernel) (by decide +kernel), ⟨by decide +kernel, by decide +kernel, by decide +kernel⟩⟩
def K_isWaiting (a : Nat) (x : Int32) (I : ow_I) : Bool :=
  if K_hasBarrel a x I then if I (a + 11 + 2 * (tn x)) 7 = 0 then true else false else false
set_option maxRecDepth 100000 in
set_option maxHeartbeats 400000 in
theorem cK_isWaiting {S : Nat → Option ow_Sh} {I : ow_I} {V : Nat → Nat → Value} {z : Nat} {a : Nat} {x : Int32} (h_a : mk_S S a) (hV : k_V a I) : ow_Cf yX6_isWaiting cX6_isWaiting 2 (some .boolean) 1 [.ref a, .int x] (S, I, V, z) (some (.int (bi (K_isWaiting a x I)))) (S, I, V, z) := by
  refine ow_Cf.of rfl (Nat.le_of_ble_eq_true rfl) (fun X K E F hk => ?_)
  have E : ow_E X RX6 cX6_isWaiting 2 (ow_rm 1 0 0) := E
  refine or_lv [(0, .ref a), (1, .int x)] rfl ?_
  dsimp only [K_isWaiting] at hk
  refine or_aload_n E rfl dX6_isWaiting_0 ?_
  refine or_iload_n E rfl dX6_isWaiting_1 ?_
  refine or_cV1r (cK_hasBarrel  h_a ) E lk_6_98 dX6_isWaiting_2 h_a.1 rfl rfl (by decide) (by decide) ⟨Nat.le_refl _, Nat.le_refl _⟩ (Nat.le_of_ble_eq_true rfl) ?_
  refine or_if_eqZ 24 E dX6_isWaiting_5 rfl (fun q5 => ?_) (fun q5 => ?_)
  · replace hk := ite_n (P := fun r : Bool => K (some (.int (bi (r)))) (S, I, V, z)) (bz_neg q5) hk
    refine or_iconst (v := nI 0) E rfl dX6_isWaiting_24 ?_
    exact or_zret E F dX6_isWaiting_25 (Nat.le_refl _) (Nat.le_refl _) (bi_nar false) hk
  · replace hk := ite_p (P := fun r : Bool => K (some (.int (bi (r)))) (S, I, V, z)) q5 hk
    refine or_aload_n E rfl dX6_isWaiting_8 ?_
    refine ot_getC E fl_6_33 dX6_isWaiting_9 h_a.1 rfl ?_
    refine or_iload_n E rfl dX6_isWaiting_12 ?_
    refine or_top (nI_tn (kb_1 q5).1).symm ?_
    refine ot_aald (j := tn x) E dX6_isWaiting_13 h_a.2.2.2.1 rfl rfl (by have := (kb_1 q5).2; have := hV.2.1.2; omega) (Nat.le_of_ble_eq_true rfl) ?_
    refine ot_getI E fl_6_102 dX6_isWaiting_14 (h_a.2.2.2.2.2.2 (tn x) (by have := (kb_1 q5).2; have := hV.2.1.2; omega)).1 rfl ?_
    refine or_if_ne 24 E dX6_isWaiting_17 rfl (fun q17 => ?_) (fun q17 => ?_)
    · replace hk := ite_n (P := fun r : Bool => K (some (.int (bi (r)))) (S, I, V, z)) q17 hk
      refine or_iconst (v := nI 0) E rfl dX6_isWaiting_24 ?_
      exact or_zret E F dX6_isWaiting_25 (Nat.le_refl _) (Nat.le_refl _) (bi_nar false) hk
    · replace hk := ite_p (P := fun r : Bool => K (some (.int (bi (r)))) (S, I, V, z)) q17 hk
      refine or_iconst (v := nI 1) E rfl dX6_isWaiting_20 ?_
      refine or_goto 25 E dX6_isWaiting_21 rfl ?_
      exact or_zret E F dX6_isWaiting_25 (Nat.le_refl _) (Nat.le_refl _) (bi_nar true) hk
def K_withFee (a : Nat) (p : Int32) (I : ow_I) : Int32 :=
  p + ((p * (I a 3)) / (nI 100))
set_option maxRecDepth 100000 in
set_option maxHeartbeats 400000 in
theorem cK_withFee {S : Nat → Option ow_Sh} {I : ow_I} {V : Nat → Nat → Value} {z : Nat} {a : Nat} {p : Int32} (h_a : mk_S S a)  : ow_Cf yX6_withFee cX6_withFee 2 (some .int) 0 [.ref a, .int p] (S, I, V, z) (some (.int (K_withFee a p I))) (S, I, V, z) := by
  refine ow_Cf.of rfl (Nat.le_of_ble_eq_true rfl) (fun X K E F hk => ?_)
  have E : ow_E X RX6 cX6_withFee 2 (ow_rm 0 0 0) := E
  refine or_lv [(0, .ref a), (1, .int p)] rfl ?_
  dsimp only [K_withFee] at hk
  refine or_iload_n E rfl dX6_withFee_0 ?_
  refine or_iload_n E rfl dX6_withFee_1 ?_
  refine or_aload_n E rfl dX6_withFee_2 ?_
  refine ot_getI E fl_6_59 dX6_withFee_3 h_a.1 rfl ?_
  refine or_imul E dX6_withFee_6 ?_
  refine or_bipush (v := nI 100) E rfl dX6_withFee_7 ?_
  refine or_idiv E (by decide) dX6_withFee_9 ?_
  refine or_iadd E dX6_withFee_10 ?_
  exact or_iret E F dX6_withFee_11 (Nat.le_refl _) (Nat.le_refl _) hk
def K_nextPrice (a : Nat) (I : ow_I) : Int32 :=
  if I a 13 = (-1) then (-1) else if I a 15 = (-1) then I (a + 11 + 2 * (tn (I a 13))) 5 else I a 14 + (I a 2)
set_option maxRecDepth 100000 in
set_option maxHeartbeats 400000 in
theorem cK_nextPrice {S : Nat → Option ow_Sh} {I : ow_I} {V : Nat → Nat → Value} {z : Nat} {a : Nat} (h_a : mk_S S a) (hV : k_V a I) : ow_Cf yX6_nextPrice cX6_nextPrice 1 (some .int) 0 [.ref a] (S, I, V, z) (some (.int (K_nextPrice a I))) (S, I, V, z) := by
  refine ow_Cf.of rfl (Nat.le_of_ble_eq_true rfl) (fun X K E F hk => ?_)
  have E : ow_E X RX6 cX6_nextPrice 1 (ow_rm 0 0 0) := E
  refine or_lv [(0, .ref a)] rfl ?_
  dsimp only [K_nextPrice] at hk
  refine or_aload_n E rfl dX6_nextPrice_0 ?_
  refine ot_getI E fl_6_41 dX6_nextPrice_1 h_a.1 rfl ?_
  refine or_iconst (v := -1) E rfl dX6_nextPrice_4 ?_
  refine or_icmp_ne 10 E dX6_nextPrice_5 rfl (fun q5 => ?_) (fun q5 => ?_)
  · replace hk := ite_n (P := fun r : Int32 => K (some (.int (r))) (S, I, V, z)) q5 hk
    refine or_aload_n E rfl dX6_nextPrice_10 ?_
    refine ot_getI E fl_6_47 dX6_nextPrice_11 h_a.1 rfl ?_
    refine or_iconst (v := -1) E rfl dX6_nextPrice_14 ?_
    refine or_icmp_ne 33 E dX6_nextPrice_15 rfl (fun q15 => ?_) (fun q15 => ?_)
    · replace hk := ite_n (P := fun r : Int32 => K (some (.int (r))) (S, I, V, z)) q15 hk
      refine or_aload_n E rfl dX6_nextPrice_33 ?_
      refine ot_getI E fl_6_44 dX6_nextPrice_34 h_a.1 rfl ?_
      refine or_aload_n E rfl dX6_nextPrice_37 ?_
      refine ot_getI E fl_6_22 dX6_nextPrice_38 h_a.1 rfl ?_
      refine or_iadd E dX6_nextPrice_41 ?_
      exact or_iret E F dX6_nextPrice_42 (Nat.le_refl _) (Nat.le_refl _) hk
    · replace hk := ite_p (P := fun r : Int32 => K (some (.int (r))) (S, I, V, z)) q15 hk
      refine or_aload_n E rfl dX6_nextPrice_18 ?_
      refine ot_getC E fl_6_33 dX6_nextPrice_19 h_a.1 rfl ?_
      refine or_aload_n E rfl dX6_nextPrice_22 ?_
      refine ot_getI E fl_6_41 dX6_nextPrice_23 h_a.1 rfl ?_
      refine or_top (nI_tn (ko_1 hV q5).1).symm ?_
      refine ot_aald (j := tn (I a 13)) E dX6_nextPrice_26 h_a.2.2.2.1 rfl rfl (ko_1 hV q5).2 (Nat.le_of_ble_eq_true rfl) ?_
      refine ot_getI E fl_6_134 dX6_nextPrice_27 (h_a.2.2.2.2.2.2 (tn (I a 13)) (ko_1 hV q5).2).1 rfl ?_
      refine or_goto 42 E dX6_nextPrice_30 rfl ?_
      exact or_iret E F dX6_nextPrice_42 (Nat.le_refl _) (Nat.le_refl _) hk
  · replace hk := ite_p (P := fun r : Int32 => K (some (.int (r))) (S, I, V, z)) q5 hk
    refine or_iconst (v := -1) E rfl dX6_nextPrice_8 ?_
    exact or_iret E F dX6_nextPrice_9 (Nat.le_refl _) (Nat.le_refl _) hk
def K_isIdle (a : Nat) (I : ow_I) : Bool :=
  if I a 13 = (-1) then if I a 12 = 0 then true else false else false
set_option maxRecDepth 100000 in
set_option maxHeartbeats 400000 in
theorem cK_isIdle {S : Nat → Option ow_Sh} {I : ow_I} {V : Nat → Nat → Value} {z : Nat} {a : Nat} (h_a : mk_S S a)  : ow_Cf yX6_isIdle cX6_isIdle 1 (some .boolean) 0 [.ref a] (S, I, V, z) (some (.int (bi (K_isIdle a I)))) (S, I, V, z) := by
  refine ow_Cf.of rfl (Nat.le_of_ble_eq_true rfl) (fun X K E F hk => ?_)
  have E : ow_E X RX6 cX6_isIdle 1 (ow_rm 0 0 0) := E
  refine or_lv [(0, .ref a)] rfl ?_
  dsimp only [K_isIdle] at hk
  refine or_aload_n E rfl dX6_isIdle_0 ?_
  refine ot_getI E fl_6_41 dX6_isIdle_1 h_a.1 rfl ?_
  refine or_iconst (v := -1) E rfl dX6_isIdle_4 ?_
  refine or_icmp_ne 19 E dX6_isIdle_5 rfl (fun q5 => ?_) (fun q5 => ?_)
  · replace hk := ite_n (P := fun r : Bool => K (some (.int (bi (r)))) (S, I, V, z)) q5 hk
    refine or_iconst (v := nI 0) E rfl dX6_isIdle_19 ?_
    exact or_zret E F dX6_isIdle_20 (Nat.le_refl _) (Nat.le_refl _) (bi_nar false) hk
  · replace hk := ite_p (P := fun r : Bool => K (some (.int (bi (r)))) (S, I, V, z)) q5 hk
    refine or_aload_n E rfl dX6_isIdle_8 ?_
    refine ot_getI E fl_6_89 dX6_isIdle_9 h_a.1 rfl ?_
    refine or_if_ne 19 E dX6_isIdle_12 rfl (fun q12 => ?_) (fun q12 => ?_)
    · replace hk := ite_n (P := fun r : Bool => K (some (.int (bi (r)))) (S, I, V, z)) q12 hk
      refine or_iconst (v := nI 0) E rfl dX6_isIdle_19 ?_
      exact or_zret E F dX6_isIdle_20 (Nat.le_refl _) (Nat.le_refl _) (bi_nar false) hk
    · replace hk := ite_p (P := fun r : Bool => K (some (.int (bi (r)))) (S, I, V, z)) q12 hk
      refine or_iconst (v := nI 1) E rfl dX6_isIdle_15 ?_
      refine or_goto 20 E dX6_isIdle_16 rfl ?_
      exact or_zret E F dX6_isIdle_20 (Nat.le_refl _) (Nat.le_refl _) (bi_nar true) hk
def K_endBidding (a : Nat) (I : ow_I) : ow_I :=
  lt (ow_u I a 13 ((-1))) (fun (I1 : ow_I) => lt (ow_u I1 a 14 ((-1))) (fun (I2 : ow_I) => lt (ow_u I2 a 15 ((-1))) (fun (I3 : ow_I) => lt (ow_u I3 a 16 ((-1))) (fun (I4 : ow_I) => I4))))
set_option maxRecDepth 100000 in
set_option maxHeartbeats 400000 in
theorem cK_endBidding {S : Nat → Option ow_Sh} {I : ow_I} {V : Nat → Nat → Value} {z : Nat} {a : Nat} (h_a : mk_S S a)  : ow_Cf yX6_endBidding cX6_endBidding 1 none 0 [.ref a] (S, I, V, z) none (S, K_endBidding a I, V, z) := by
  refine ow_Cf.of rfl (Nat.le_of_ble_eq_true rfl) (fun X K E F hk => ?_)
  have E : ow_E X RX6 cX6_endBidding 1 (ow_rm 0 0 0) := E
  refine or_lv [(0, .ref a)] rfl ?_
  dsimp only [K_endBidding] at hk
  refine or_aload_n E rfl dX6_endBidding_0 ?_
  refine or_iconst (v := -1) E rfl dX6_endBidding_1 ?_
  refine ot_putI E fl_6_41 fw_6_13 dX6_endBidding_2 h_a.1 rfl ?_
  obtain ⟨I1, hI1⟩ : ∃ y_ : ow_I, y_ = ow_u I a 13 ((-1)) := ⟨_, rfl⟩
  replace hk := lt_k (P := fun r : ow_I => K none (S, r, V, z)) hI1 hk
  refine or_nmI hI1 ?_
  refine or_aload_n E rfl dX6_endBidding_5 ?_
  refine or_iconst (v := -1) E rfl dX6_endBidding_6 ?_
  refine ot_putI E fl_6_44 fw_6_14 dX6_endBidding_7 h_a.1 rfl ?_
  obtain ⟨I2, hI2⟩ : ∃ y_ : ow_I, y_ = ow_u I1 a 14 ((-1)) := ⟨_, rfl⟩
  replace hk := lt_k (P := fun r : ow_I => K none (S, r, V, z)) hI2 hk
  refine or_nmI hI2 ?_
  refine or_aload_n E rfl dX6_endBidding_10 ?_
  refine or_iconst (v := -1) E rfl dX6_endBidding_11 ?_
  refine ot_putI E fl_6_47 fw_6_15 dX6_endBidding_12 h_a.1 rfl ?_
  obtain ⟨I3, hI3⟩ : ∃ y_ : ow_I, y_ = ow_u I2 a 15 ((-1)) := ⟨_, rfl⟩
  replace hk := lt_k (P := fun r : ow_I => K none (S, r, V, z)) hI3 hk
  refine or_nmI hI3 ?_
  refine or_aload_n E rfl dX6_endBidding_15 ?_
  refine or_iconst (v := -1) E rfl dX6_endBidding_16 ?_
  refine ot_putI E fl_6_50 fw_6_16 dX6_endBidding_17 h_a.1 rfl ?_
  obtain ⟨I4, hI4⟩ : ∃ y_ : ow_I, y_ = ow_u I3 a 16 ((-1)) := ⟨_, rfl⟩
  replace hk := lt_k (P := fun r : ow_I => K none (S, r, V, z)) hI4 hk
  refine or_nmI hI4 ?_
  exact or_vret E F dX6_endBidding_20 (Nat.le_refl _) (Nat.le_refl _) hk
def K_enqueue (a : Nat) (x : Int32) (I : ow_I) : ow_I :=
  if 20 ≤ tn (I a 12) then I else lt (ow_u I (a + 4) (tn (I a 12)) x) (fun (I1 : ow_I) => lt (ow_u I1 a 12 (I1 a 12 + (nI 1))) (fun (I2 : ow_I) => I2))
set_option maxRecDepth 100000 in
set_option maxHeartbeats 400000 in
theorem cK_enqueue {S : Nat → Option ow_Sh} {I : ow_I} {V : Nat → Nat → Value} {z : Nat} {a : Nat} {x : Int32} (h_a : mk_S S a) (h12 : 0 ≤ I a 12) (h12b : tn (I a 12) ≤ 20) : ow_Cf yX6_enqueue cX6_enqueue 2 none 0 [.ref a, .int x] (S, I, V, z) none (S, K_enqueue a x I, V, z) := by
  refine ow_Cf.of rfl (Nat.le_of_ble_eq_true rfl) (fun X K E F hk => ?_)
  have E : ow_E X RX6 cX6_enqueue 2 (ow_rm 0 0 0) := E
  refine or_lv [(0, .ref a), (1, .int x)] rfl ?_
  dsimp only [K_enqueue] at hk
  refine or_aload_n E rfl dX6_enqueue_0 ?_
  refine ot_getI E fl_6_89 dX6_enqueue_1 h_a.1 rfl ?_
  refine or_top (nI_tn h12).symm ?_
  refine or_bipush (v := nI 20) E rfl dX6_enqueue_4 ?_
  refine or_icmp_geN 29 E dX6_enqueue_6 rfl (by omega) (by omega) (fun q6 => ?_) (fun q6 => ?_)
  · replace hk := ite_p (P := fun r : ow_I => K none (S, r, V, z)) q6 hk
    exact or_vret E F dX6_enqueue_29 (Nat.le_refl _) (Nat.le_refl _) hk
  · replace hk := ite_n (P := fun r : ow_I => K none (S, r, V, z)) q6 hk
    refine or_aload_n E rfl dX6_enqueue_9 ?_
    refine ot_getC E fl_6_37 dX6_enqueue_10 h_a.1 rfl ?_
    refine or_aload_n E rfl dX6_enqueue_13 ?_
    refine ot_getI E fl_6_89 dX6_enqueue_14 h_a.1 rfl ?_
    refine or_top (nI_tn h12).symm ?_
    refine or_iload_n E rfl dX6_enqueue_17 ?_
    refine ot_iast (j := tn (I a 12)) E dX6_enqueue_18 h_a.2.2.2.2.1 rfl rfl (by omega) (Nat.le_of_ble_eq_true rfl) ?_
    obtain ⟨I1, hI1⟩ : ∃ y_ : ow_I, y_ = ow_u I (a + 4) (tn (I a 12)) x := ⟨_, rfl⟩
    replace hk := lt_k (P := fun r : ow_I => K none (S, r, V, z)) hI1 hk
    refine or_nmI hI1 ?_
    refine or_aload_n E rfl dX6_enqueue_19 ?_
    refine or_dup E rfl dX6_enqueue_20 ?_
    refine ot_getI E fl_6_89 dX6_enqueue_21 h_a.1 rfl ?_
    refine or_iconst (v := nI 1) E rfl dX6_enqueue_24 ?_
    refine or_iadd E dX6_enqueue_25 ?_
    refine ot_putI E fl_6_89 fw_6_12 dX6_enqueue_26 h_a.1 rfl ?_
    obtain ⟨I2, hI2⟩ : ∃ y_ : ow_I, y_ = ow_u I1 a 12 (I1 a 12 + (nI 1)) := ⟨_, rfl⟩
    replace hk := lt_k (P := fun r : ow_I => K none (S, r, V, z)) hI2 hk
    refine or_nmI hI2 ?_
    exact or_vret E F dX6_enqueue_29 (Nat.le_refl _) (Nat.le_refl _) hk
def K_dequeue_L4 (a : Nat) (x : Int32) : Nat → ow_I → Nat → Nat → ow_I
  | 0, I, _, _ => I
  | n + 1, I, k, i => if tn (I a 12) ≤ i then lt (ow_u I a 12 (nI k)) (fun (I1 : ow_I) => I1) else if I (a + 4) i = x then K_dequeue_L4 a x n I k (i + 1) else lt (ow_u I (a + 4) k (I (a + 4) i)) (fun (I2 : ow_I) => K_dequeue_L4 a x n I2 (k + 1) (i + 1))
def K_dequeue (a : Nat) (x : Int32) (I : ow_I) : ow_I :=
  K_dequeue_L4 a x 21 I 0 0
set_option maxRecDepth 100000 in
set_option maxHeartbeats 400000 in
theorem cK_dequeue {S : Nat → Option ow_Sh} {I : ow_I} {V : Nat → Nat → Value} {z : Nat} {a : Nat} {x : Int32} (h_a : mk_S S a) (h12 : 0 ≤ I a 12) (h12b : tn (I a 12) ≤ 20) : ow_Cf yX6_dequeue cX6_dequeue 4 none 0 [.ref a, .int x] (S, I, V, z) none (S, K_dequeue a x I, V, z) := by
  refine ow_Cf.of rfl (Nat.le_of_ble_eq_true rfl) (fun X K E F hk => ?_)
  have E : ow_E X RX6 cX6_dequeue 4 (ow_rm 0 0 0) := E
  refine or_lv [(0, .ref a), (1, .int x)] rfl ?_
  have L4 : ∀ (n : Nat) (I : ow_I) (k : Nat) (i : Nat) (h12 : 0 ≤ I a 12) (h12b : tn (I a 12) ≤ 20) (hki : k ≤ i) (hi : i ≤ 20) (hm : 20 - i < n) (hk : K none (S, K_dequeue_L4 a x n I k i, V, z)), ow_W X 0 0 (S, I, V, z) 4 [(0, .ref a), (1, .int x), (2, .int (nI k)), (3, .int (nI i))] [] := by
    intro n
    induction n with
    | zero => intro I k i h12 h12b hki hi hm; omega
    | succ n ih =>
      intro I k i h12 h12b hki hi hm hk
      dsimp only [K_dequeue_L4] at hk
      refine or_iload_n E rfl dX6_dequeue_4 ?_
      refine or_aload_n E rfl dX6_dequeue_5 ?_
      refine ot_getI E fl_6_89 dX6_dequeue_6 h_a.1 rfl ?_
      refine or_top (nI_tn h12).symm ?_
      refine or_icmp_geN 43 E dX6_dequeue_9 rfl (by omega) (by omega) (fun q9 => ?_) (fun q9 => ?_)
      · replace hk := ite_p (P := fun r : ow_I => K none (S, r, V, z)) q9 hk
        refine or_aload_n E rfl dX6_dequeue_43 ?_
        refine or_iload_n E rfl dX6_dequeue_44 ?_
        refine ot_putI E fl_6_89 fw_6_12 dX6_dequeue_45 h_a.1 rfl ?_
        obtain ⟨I1, hI1⟩ : ∃ y_ : ow_I, y_ = ow_u I a 12 (nI k) := ⟨_, rfl⟩
        replace hk := lt_k (P := fun r : ow_I => K none (S, r, V, z)) hI1 hk
        refine or_nmI hI1 ?_
        exact or_vret E F dX6_dequeue_48 (Nat.le_refl _) (Nat.le_refl _) hk
      · replace hk := ite_n (P := fun r : ow_I => K none (S, r, V, z)) q9 hk
        refine or_aload_n E rfl dX6_dequeue_12 ?_
        refine ot_getC E fl_6_37 dX6_dequeue_13 h_a.1 rfl ?_
        refine or_iload_n E rfl dX6_dequeue_16 ?_
        refine ot_iald (j := i) E dX6_dequeue_17 h_a.2.2.2.2.1 rfl rfl (by omega) (Nat.le_of_ble_eq_true rfl) ?_
        refine or_iload_n E rfl dX6_dequeue_18 ?_
        refine or_icmp_eq 37 E dX6_dequeue_19 rfl (fun q19 => ?_) (fun q19 => ?_)
        · replace hk := ite_p (P := fun r : ow_I => K none (S, r, V, z)) q19 hk
          refine or_iincN (c := 1) E dX6_dequeue_37 rfl rfl (by decide) ?_
          refine or_goto 4 E dX6_dequeue_40 rfl ?_
          refine or_lv _ ?_ (ih _ _ _ h12 h12b (by omega) (by omega) (by omega) hk)
          rfl
        · replace hk := ite_n (P := fun r : ow_I => K none (S, r, V, z)) q19 hk
          refine or_aload_n E rfl dX6_dequeue_22 ?_
          refine ot_getC E fl_6_37 dX6_dequeue_23 h_a.1 rfl ?_
          refine or_iload_n E rfl dX6_dequeue_26 ?_
          refine or_aload_n E rfl dX6_dequeue_27 ?_
          refine ot_getC E fl_6_37 dX6_dequeue_28 h_a.1 rfl ?_
          refine or_iload_n E rfl dX6_dequeue_31 ?_
          refine ot_iald (j := i) E dX6_dequeue_32 h_a.2.2.2.2.1 rfl rfl (by omega) (Nat.le_of_ble_eq_true rfl) ?_
          refine ot_iast (j := k) E dX6_dequeue_33 h_a.2.2.2.2.1 rfl rfl (by omega) (Nat.le_of_ble_eq_true rfl) ?_
          obtain ⟨I2, hI2⟩ : ∃ y_ : ow_I, y_ = ow_u I (a + 4) k (I (a + 4) i) := ⟨_, rfl⟩
          replace hk := lt_k (P := fun r : ow_I => K none (S, r, V, z)) hI2 hk
          refine or_nmI hI2 ?_
          refine or_iincN (c := 1) E dX6_dequeue_34 rfl rfl (by decide) ?_
          refine or_iincN (c := 1) E dX6_dequeue_37 rfl rfl (by decide) ?_
          refine or_goto 4 E dX6_dequeue_40 rfl ?_
          refine or_lv _ ?_ (ih _ _ _ (by subst hI2; rw [rr_u (by omega)]; exact h12) (by subst hI2; rw [rr_u (by omega)]; exact h12b) (by subst hI2; omega) (by subst hI2; omega) (by omega) hk)
          rfl
  dsimp only [K_dequeue] at hk
  refine or_iconst (v := nI 0) E rfl dX6_dequeue_0 ?_
  refine or_istore_n E dX6_dequeue_1 (by decide) ?_
  refine or_iconst (v := nI 0) E rfl dX6_dequeue_2 ?_
  refine or_istore_n E dX6_dequeue_3 (by decide) ?_
  refine or_lv _ ?_ (L4 21 _ _ _ h12 h12b (by decide) (by decide) (by decide) hk)
  rfl
def K_takeBuyer (a : Nat) (p : Int32) (s : Int32) (f : Int32) (I : ow_I) : ow_I :=
  if 6 ≤ tn (I a 8) then I else lt (Y_begin (a + 5 + (tn (I a 8))) p s f I) (fun (I1 : ow_I) => lt (ow_u I1 a 8 (I1 a 8 + (nI 1))) (fun (I2 : ow_I) => lt (ow_u I2 a 6 (I2 a 6 + p)) (fun (I3 : ow_I) => I3)))
set_option maxRecDepth 100000 in
set_option maxHeartbeats 400000 in
theorem cK_takeBuyer {S : Nat → Option ow_Sh} {I : ow_I} {V : Nat → Nat → Value} {z : Nat} {a : Nat} {p : Int32} {s : Int32} {f : Int32} (h_a : mk_S S a) (hV : k_V a I) : ow_Cf yX6_takeBuyer cX6_takeBuyer 4 none 1 [.ref a, .int p, .int s, .int f] (S, I, V, z) none (S, K_takeBuyer a p s f I, V, z) := by
  refine ow_Cf.of rfl (Nat.le_of_ble_eq_true rfl) (fun X K E F hk => ?_)
  have E : ow_E X RX6 cX6_takeBuyer 4 (ow_rm 1 0 0) := E
  refine or_lv [(0, .ref a), (1, .int p), (2, .int s), (3, .int f)] rfl ?_
  have h8b := hV.1.2
  dsimp only [K_takeBuyer] at hk
  refine or_aload_n E rfl dX6_takeBuyer_0 ?_
  refine ot_getI E fl_6_71 dX6_takeBuyer_1 h_a.1 rfl ?_
  refine or_top (nI_tn hV.1.1).symm ?_
  refine or_bipush (v := nI 6) E rfl dX6_takeBuyer_4 ?_
  refine or_icmp_geN 44 E dX6_takeBuyer_6 rfl (by omega) (by omega) (fun q6 => ?_) (fun q6 => ?_)
  · replace hk := ite_p (P := fun r : ow_I => K none (S, r, V, z)) q6 hk
    exact or_vret E F dX6_takeBuyer_44 (Nat.le_refl _) (Nat.le_refl _) hk
  · replace hk := ite_n (P := fun r : ow_I => K none (S, r, V, z)) q6 hk
    refine or_aload_n E rfl dX6_takeBuyer_9 ?_
    refine ot_getC E fl_6_27 dX6_takeBuyer_10 h_a.1 rfl ?_
    refine or_aload_n E rfl dX6_takeBuyer_13 ?_
    refine ot_getI E fl_6_71 dX6_takeBuyer_14 h_a.1 rfl ?_
    refine or_top (nI_tn hV.1.1).symm ?_
    refine ot_aald (j := tn (I a 8)) E dX6_takeBuyer_17 h_a.2.2.1 rfl rfl (by omega) (Nat.le_of_ble_eq_true rfl) ?_
    refine or_iload_n E rfl dX6_takeBuyer_18 ?_
    refine or_iload_n E rfl dX6_takeBuyer_19 ?_
    refine or_iload_n E rfl dX6_takeBuyer_20 ?_
    refine or_cV3v (cY_begin  (h_a.2.2.2.2.2.1 (tn (I a 8)) (by omega)) ) E lk_6_115 dX6_takeBuyer_21 (h_a.2.2.2.2.2.1 (tn (I a 8)) (by omega)) rfl rfl (by decide) (by decide) ⟨Nat.le_refl _, Nat.le_refl _⟩ (Nat.le_of_ble_eq_true rfl) ?_
    obtain ⟨I1, hI1⟩ : ∃ y_ : ow_I, y_ = Y_begin (a + 5 + (tn (I a 8))) p s f I := ⟨_, rfl⟩
    replace hk := lt_k (P := fun r : ow_I => K none (S, r, V, z)) hI1 hk
    refine or_nmI hI1 ?_
    refine or_aload_n E rfl dX6_takeBuyer_24 ?_
    refine or_dup E rfl dX6_takeBuyer_25 ?_
    refine ot_getI E fl_6_71 dX6_takeBuyer_26 h_a.1 rfl ?_
    refine or_iconst (v := nI 1) E rfl dX6_takeBuyer_29 ?_
    refine or_iadd E dX6_takeBuyer_30 ?_
    refine ot_putI E fl_6_71 fw_6_8 dX6_takeBuyer_31 h_a.1 rfl ?_
    obtain ⟨I2, hI2⟩ : ∃ y_ : ow_I, y_ = ow_u I1 a 8 (I1 a 8 + (nI 1)) := ⟨_, rfl⟩
    replace hk := lt_k (P := fun r : ow_I => K none (S, r, V, z)) hI2 hk
    refine or_nmI hI2 ?_
    refine or_aload_n E rfl dX6_takeBuyer_34 ?_
    refine or_dup E rfl dX6_takeBuyer_35 ?_
    refine ot_getI E fl_6_68 dX6_takeBuyer_36 h_a.1 rfl ?_
    refine or_iload_n E rfl dX6_takeBuyer_39 ?_
    refine or_iadd E dX6_takeBuyer_40 ?_
    refine ot_putI E fl_6_68 fw_6_6 dX6_takeBuyer_41 h_a.1 rfl ?_
    obtain ⟨I3, hI3⟩ : ∃ y_ : ow_I, y_ = ow_u I2 a 6 (I2 a 6 + p) := ⟨_, rfl⟩
    replace hk := lt_k (P := fun r : ow_I => K none (S, r, V, z)) hI3 hk
    refine or_nmI hI3 ?_
    exact or_vret E F dX6_takeBuyer_44 (Nat.le_refl _) (Nat.le_refl _) hk
def K_coinsInPurses_L4 (a : Nat) : Nat → ow_I → Int32 → Nat → Int32
  | 0, I, _, _ => default
  | n + 1, I, c, i => if tn (I a 8) ≤ i then c else K_coinsInPurses_L4 a n I (c + (I (a + 5 + i) 0)) (i + 1)
def K_coinsInPurses (a : Nat) (I : ow_I) : Int32 :=
  K_coinsInPurses_L4 a 7 I (nI 0) 0
set_option maxRecDepth 100000 in
set_option maxHeartbeats 400000 in
theorem cK_coinsInPurses {S : Nat → Option ow_Sh} {I : ow_I} {V : Nat → Nat → Value} {z : Nat} {a : Nat} (h_a : mk_S S a) (h8 : 0 ≤ I a 8) (h8b : tn (I a 8) ≤ 6) : ow_Cf yX6_coinsInPurses cX6_coinsInPurses 3 (some .int) 0 [.ref a] (S, I, V, z) (some (.int (K_coinsInPurses a I))) (S, I, V, z) := by
  refine ow_Cf.of rfl (Nat.le_of_ble_eq_true rfl) (fun X K E F hk => ?_)
  have E : ow_E X RX6 cX6_coinsInPurses 3 (ow_rm 0 0 0) := E
  refine or_lv [(0, .ref a)] rfl ?_
  have L4 : ∀ (n : Nat) (I : ow_I) (c : Int32) (i : Nat) (h8 : 0 ≤ I a 8) (h8b : tn (I a 8) ≤ 6) (hi : i ≤ 6) (hm : 6 - i < n) (hk : K (some (.int (K_coinsInPurses_L4 a n I c i))) (S, I, V, z)), ow_W X 0 0 (S, I, V, z) 4 [(0, .ref a), (1, .int c), (2, .int (nI i))] [] := by
    intro n
    induction n with
    | zero => intro I c i h8 h8b hi hm; omega
    | succ n ih =>
      intro I c i h8 h8b hi hm hk
      dsimp only [K_coinsInPurses_L4] at hk
      refine or_iload_n E rfl dX6_coinsInPurses_4 ?_
      refine or_aload_n E rfl dX6_coinsInPurses_5 ?_
      refine ot_getI E fl_6_71 dX6_coinsInPurses_6 h_a.1 rfl ?_
      refine or_top (nI_tn h8).symm ?_
      refine or_icmp_geN 30 E dX6_coinsInPurses_9 rfl (by omega) (by omega) (fun q9 => ?_) (fun q9 => ?_)
      · replace hk := ite_p (P := fun r : Int32 => K (some (.int (r))) (S, I, V, z)) q9 hk
        refine or_iload_n E rfl dX6_coinsInPurses_30 ?_
        exact or_iret E F dX6_coinsInPurses_31 (Nat.le_refl _) (Nat.le_refl _) hk
      · replace hk := ite_n (P := fun r : Int32 => K (some (.int (r))) (S, I, V, z)) q9 hk
        refine or_iload_n E rfl dX6_coinsInPurses_12 ?_
        refine or_aload_n E rfl dX6_coinsInPurses_13 ?_
        refine ot_getC E fl_6_27 dX6_coinsInPurses_14 h_a.1 rfl ?_
        refine or_iload_n E rfl dX6_coinsInPurses_17 ?_
        refine ot_aald (j := i) E dX6_coinsInPurses_18 h_a.2.2.1 rfl rfl (by omega) (Nat.le_of_ble_eq_true rfl) ?_
        refine ot_getI E fl_6_160 dX6_coinsInPurses_19 (h_a.2.2.2.2.2.1 i (by omega)) rfl ?_
        refine or_iadd E dX6_coinsInPurses_22 ?_
        refine or_istore_n E dX6_coinsInPurses_23 (by decide) ?_
        refine or_iincN (c := 1) E dX6_coinsInPurses_24 rfl rfl (by decide) ?_
        refine or_goto 4 E dX6_coinsInPurses_27 rfl ?_
        refine or_lv _ ?_ (ih _ _ _ h8 h8b (by omega) (by omega) hk)
        rfl
  dsimp only [K_coinsInPurses] at hk
  refine or_iconst (v := nI 0) E rfl dX6_coinsInPurses_0 ?_
  refine or_istore_n E dX6_coinsInPurses_1 (by decide) ?_
  refine or_iconst (v := nI 0) E rfl dX6_coinsInPurses_2 ?_
  refine or_istore_n E dX6_coinsInPurses_3 (by decide) ?_
  refine or_lv _ ?_ (L4 7 _ _ _ h8 h8b (by decide) (by decide) hk)
  rfl
def K_keenest_L4 (a : Nat) (k : Nat) : Nat → ow_I → Nat → Nat → Nat
  | 0, I, _, _ => default
  | n + 1, I, j, i => if tn (I a 8) ≤ i then j else if Op.cmpValue (FP.dcmp (Y_valueOf (a + 5 + i) k I) (Y_valueOf (a + 5 + j) k I)) .l ≤ 0 then K_keenest_L4 a k n I j (i + 1) else K_keenest_L4 a k n I i (i + 1)
def K_keenest (a : Nat) (k : Nat) (I : ow_I) : Nat :=
  K_keenest_L4 a k 7 I 0 1
set_option maxRecDepth 100000 in
set_option maxHeartbeats 400000 in
theorem cK_keenest {S : Nat → Option ow_Sh} {I : ow_I} {V : Nat → Nat → Value} {z : Nat} {a : Nat} {k : Nat} (h_a : mk_S S a) (h_k : br_S S k) (h8 : 0 ≤ I a 8) (h8b : tn (I a 8) ≤ 6) : ow_Cf yX6_keenest cX6_keenest 4 (some .int) 1 [.ref a, .ref k] (S, I, V, z) (some (.int (nI (K_keenest a k I)))) (S, I, V, z) := by
  refine ow_Cf.of rfl (Nat.le_of_ble_eq_true rfl) (fun X K E F hk => ?_)
  have E : ow_E X RX6 cX6_keenest 4 (ow_rm 1 0 0) := E
  refine or_lv [(0, .ref a), (1, .ref k)] rfl ?_
  have L4 : ∀ (n : Nat) (I : ow_I) (j : Nat) (i : Nat) (h8 : 0 ≤ I a 8) (h8b : tn (I a 8) ≤ 6) (hj : j < 6) (hi : i ≤ 6) (hm : 6 - i < n) (hk : K (some (.int (nI (K_keenest_L4 a k n I j i)))) (S, I, V, z)), ow_W X 0 0 (S, I, V, z) 4 [(0, .ref a), (1, .ref k), (2, .int (nI j)), (3, .int (nI i))] [] := by
    intro n
    induction n with
    | zero => intro I j i h8 h8b hj hi hm; omega
    | succ n ih =>
      intro I j i h8 h8b hj hi hm hk
      dsimp only [K_keenest_L4] at hk
      refine or_iload_n E rfl dX6_keenest_4 ?_
      refine or_aload_n E rfl dX6_keenest_5 ?_
      refine ot_getI E fl_6_71 dX6_keenest_6 h_a.1 rfl ?_
      refine or_top (nI_tn h8).symm ?_
      refine or_icmp_geN 44 E dX6_keenest_9 rfl (by omega) (by omega) (fun q9 => ?_) (fun q9 => ?_)
      · replace hk := ite_p (P := fun r : Nat => K (some (.int (nI (r)))) (S, I, V, z)) q9 hk
        refine or_iload_n E rfl dX6_keenest_44 ?_
        exact or_iret E F dX6_keenest_45 (Nat.le_refl _) (Nat.le_refl _) hk
      · replace hk := ite_n (P := fun r : Nat => K (some (.int (nI (r)))) (S, I, V, z)) q9 hk
        refine or_aload_n E rfl dX6_keenest_12 ?_
        refine ot_getC E fl_6_27 dX6_keenest_13 h_a.1 rfl ?_
        refine or_iload_n E rfl dX6_keenest_16 ?_
        refine ot_aald (j := i) E dX6_keenest_17 h_a.2.2.1 rfl rfl (by omega) (Nat.le_of_ble_eq_true rfl) ?_
        refine or_aload_n E rfl dX6_keenest_18 ?_
        refine or_cV1r (cY_valueOf  (h_a.2.2.2.2.2.1 i (by omega)) h_k ) E lk_6_166 dX6_keenest_19 (h_a.2.2.2.2.2.1 i (by omega)) rfl rfl (by decide) (by decide) ⟨Nat.le_refl _, Nat.le_refl _⟩ (Nat.le_of_ble_eq_true rfl) ?_
        refine or_aload_n E rfl dX6_keenest_22 ?_
        refine ot_getC E fl_6_27 dX6_keenest_23 h_a.1 rfl ?_
        refine or_iload_n E rfl dX6_keenest_26 ?_
        refine ot_aald (j := j) E dX6_keenest_27 h_a.2.2.1 rfl rfl (by omega) (Nat.le_of_ble_eq_true rfl) ?_
        refine or_aload_n E rfl dX6_keenest_28 ?_
        refine or_cV1r (cY_valueOf  (h_a.2.2.2.2.2.1 j (by omega)) h_k ) E lk_6_166 dX6_keenest_29 (h_a.2.2.2.2.2.1 j (by omega)) rfl rfl (by decide) (by decide) ⟨Nat.le_refl _, Nat.le_refl _⟩ (Nat.le_of_ble_eq_true rfl) ?_
        refine or_dcmp E dX6_keenest_32 ?_
        refine or_if_le 38 E dX6_keenest_33 rfl (fun q33 => ?_) (fun q33 => ?_)
        · replace hk := ite_p (P := fun r : Nat => K (some (.int (nI (r)))) (S, I, V, z)) q33 hk
          refine or_iincN (c := 1) E dX6_keenest_38 rfl rfl (by decide) ?_
          refine or_goto 4 E dX6_keenest_41 rfl ?_
          refine or_lv _ ?_ (ih _ _ _ h8 h8b (by omega) (by omega) (by omega) hk)
          rfl
        · replace hk := ite_n (P := fun r : Nat => K (some (.int (nI (r)))) (S, I, V, z)) q33 hk
          refine or_iload_n E rfl dX6_keenest_36 ?_
          refine or_istore_n E dX6_keenest_37 (by decide) ?_
          refine or_iincN (c := 1) E dX6_keenest_38 rfl rfl (by decide) ?_
          refine or_goto 4 E dX6_keenest_41 rfl ?_
          refine or_lv _ ?_ (ih _ _ _ h8 h8b (by omega) (by omega) (by omega) hk)
          rfl
  dsimp only [K_keenest] at hk
  refine or_iconst (v := nI 0) E rfl dX6_keenest_0 ?_
  refine or_istore_n E dX6_keenest_1 (by decide) ?_
  refine or_iconst (v := nI 1) E rfl dX6_keenest_2 ?_
  refine or_istore_n E dX6_keenest_3 (by decide) ?_
  refine or_lv _ ?_ (L4 7 _ _ _ h8 h8b (by decide) (by decide) (by decide) hk)
  rfl
def K_refusal (a : Nat) (x : Int32) (I : ow_I) : Int32 :=
  if T_isLow (a + 1) I then if I a 13 = (-1) then nI 2 else if x = I a 15 then nI 3 else if K_hasBuyer a x I then if I (a + 5 + (tn x)) 0 < K_withFee a (K_nextPrice a I) I then nI 4 else nI 0 else nI 4 else nI 1
set_option maxRecDepth 100000 in
set_option maxHeartbeats 400000 in
theorem cK_refusal {S : Nat → Option ow_Sh} {I : ow_I} {V : Nat → Nat → Value} {z : Nat} {a : Nat} {x : Int32} (h_a : mk_S S a) (hV : k_V a I) : ow_Cf yX6_refusal cX6_refusal 2 (some .int) 1 [.ref a, .int x] (S, I, V, z) (some (.int (K_refusal a x I))) (S, I, V, z) := by
  refine ow_Cf.of rfl (Nat.le_of_ble_eq_true rfl) (fun X K E F hk => ?_)
  have E : ow_E X RX6 cX6_refusal 2 (ow_rm 1 0 0) := E
  refine or_lv [(0, .ref a), (1, .int x)] rfl ?_
  dsimp only [K_refusal] at hk
  refine or_aload_n E rfl dX6_refusal_0 ?_
  refine ot_getC E fl_6_12 dX6_refusal_1 h_a.1 rfl ?_
  refine or_cV0r (cT_isLow  h_a.2.1 ) E lk_6_170 dX6_refusal_4 h_a.2.1 rfl rfl (by decide) (by decide) ⟨Nat.le_refl _, Nat.le_refl _⟩ (Nat.le_of_ble_eq_true rfl) ?_
  refine or_if_neZ 12 E dX6_refusal_7 rfl (fun q7 => ?_) (fun q7 => ?_)
  · replace hk := ite_p (P := fun r : Int32 => K (some (.int (r))) (S, I, V, z)) q7 hk
    refine or_aload_n E rfl dX6_refusal_12 ?_
    refine ot_getI E fl_6_41 dX6_refusal_13 h_a.1 rfl ?_
    refine or_iconst (v := -1) E rfl dX6_refusal_16 ?_
    refine or_icmp_ne 22 E dX6_refusal_17 rfl (fun q17 => ?_) (fun q17 => ?_)
    · replace hk := ite_n (P := fun r : Int32 => K (some (.int (r))) (S, I, V, z)) q17 hk
      refine or_iload_n E rfl dX6_refusal_22 ?_
      refine or_aload_n E rfl dX6_refusal_23 ?_
      refine ot_getI E fl_6_47 dX6_refusal_24 h_a.1 rfl ?_
      refine or_icmp_ne 32 E dX6_refusal_27 rfl (fun q27 => ?_) (fun q27 => ?_)
      · replace hk := ite_n (P := fun r : Int32 => K (some (.int (r))) (S, I, V, z)) q27 hk
        refine or_aload_n E rfl dX6_refusal_32 ?_
        refine or_iload_n E rfl dX6_refusal_33 ?_
        refine or_cV1r (cK_hasBuyer  h_a ) E lk_6_156 dX6_refusal_34 h_a.1 rfl rfl (by decide) (by decide) ⟨Nat.le_refl _, Nat.le_refl _⟩ (Nat.le_of_ble_eq_true rfl) ?_
        refine or_if_eqZ 64 E dX6_refusal_37 rfl (fun q37 => ?_) (fun q37 => ?_)
        · replace hk := ite_n (P := fun r : Int32 => K (some (.int (r))) (S, I, V, z)) (bz_neg q37) hk
          refine or_iconst (v := nI 4) E rfl dX6_refusal_64 ?_
          exact or_iret E F dX6_refusal_65 (Nat.le_refl _) (Nat.le_refl _) hk
        · replace hk := ite_p (P := fun r : Int32 => K (some (.int (r))) (S, I, V, z)) q37 hk
          refine or_aload_n E rfl dX6_refusal_40 ?_
          refine ot_getC E fl_6_27 dX6_refusal_41 h_a.1 rfl ?_
          refine or_iload_n E rfl dX6_refusal_44 ?_
          refine or_top (nI_tn (ky_1 q37).1).symm ?_
          refine ot_aald (j := tn x) E dX6_refusal_45 h_a.2.2.1 rfl rfl (by have := (ky_1 q37).2; have := hV.1.2; omega) (Nat.le_of_ble_eq_true rfl) ?_
          refine ot_getI E fl_6_160 dX6_refusal_46 (h_a.2.2.2.2.2.1 (tn x) (by have := (ky_1 q37).2; have := hV.1.2; omega)) rfl ?_
          refine or_aload_n E rfl dX6_refusal_49 ?_
          refine or_aload_n E rfl dX6_refusal_50 ?_
          refine or_cV0r (cK_nextPrice  h_a hV) E lk_6_173 dX6_refusal_51 h_a.1 rfl rfl (by decide) (by decide) ⟨Nat.le_refl _, Nat.le_refl _⟩ (Nat.le_of_ble_eq_true rfl) ?_
          refine or_cV1r (cK_withFee  h_a ) E lk_6_177 dX6_refusal_54 h_a.1 rfl rfl (by decide) (by decide) ⟨Nat.le_refl _, Nat.le_refl _⟩ (Nat.le_of_ble_eq_true rfl) ?_
          refine or_icmp_lt 64 E dX6_refusal_57 rfl (fun q57 => ?_) (fun q57 => ?_)
          · replace hk := ite_p (P := fun r : Int32 => K (some (.int (r))) (S, I, V, z)) q57 hk
            refine or_iconst (v := nI 4) E rfl dX6_refusal_64 ?_
            exact or_iret E F dX6_refusal_65 (Nat.le_refl _) (Nat.le_refl _) hk
          · replace hk := ite_n (P := fun r : Int32 => K (some (.int (r))) (S, I, V, z)) q57 hk
            refine or_iconst (v := nI 0) E rfl dX6_refusal_60 ?_
            refine or_goto 65 E dX6_refusal_61 rfl ?_
            exact or_iret E F dX6_refusal_65 (Nat.le_refl _) (Nat.le_refl _) hk
      · replace hk := ite_p (P := fun r : Int32 => K (some (.int (r))) (S, I, V, z)) q27 hk
        refine or_iconst (v := nI 3) E rfl dX6_refusal_30 ?_
        exact or_iret E F dX6_refusal_31 (Nat.le_refl _) (Nat.le_refl _) hk
    · replace hk := ite_p (P := fun r : Int32 => K (some (.int (r))) (S, I, V, z)) q17 hk
      refine or_iconst (v := nI 2) E rfl dX6_refusal_20 ?_
      exact or_iret E F dX6_refusal_21 (Nat.le_refl _) (Nat.le_refl _) hk
  · replace hk := ite_n (P := fun r : Int32 => K (some (.int (r))) (S, I, V, z)) (bz_neg q7) hk
    refine or_iconst (v := nI 1) E rfl dX6_refusal_10 ?_
    exact or_iret E F dX6_refusal_11 (Nat.le_refl _) (Nat.le_refl _) hk
def K_takeNod (a : Nat) (x : Int32) (I : ow_I) : ow_I :=
  if K_hasBuyer a x I then lt (ow_u I a 14 (K_nextPrice a I)) (fun (I1 : ow_I) => lt (ow_u I1 a 15 x) (fun (I2 : ow_I) => lt (ow_u I2 a 16 (nI 0)) (fun (I3 : ow_I) => lt (ow_u I3 (a + 5 + (tn x)) 4 (I3 (a + 5 + (tn x)) 4 + (nI 1))) (fun (I4 : ow_I) => I4)))) else I
set_option maxRecDepth 100000 in
set_option maxHeartbeats 400000 in
theorem cK_takeNod {S : Nat → Option ow_Sh} {I : ow_I} {V : Nat → Nat → Value} {z : Nat} {a : Nat} {x : Int32} (h_a : mk_S S a) (hV : k_V a I) : ow_Cf yX6_takeNod cX6_takeNod 2 none 1 [.ref a, .int x] (S, I, V, z) none (S, K_takeNod a x I, V, z) := by
  refine ow_Cf.of rfl (Nat.le_of_ble_eq_true rfl) (fun X K E F hk => ?_)
  have E : ow_E X RX6 cX6_takeNod 2 (ow_rm 1 0 0) := E
  refine or_lv [(0, .ref a), (1, .int x)] rfl ?_
  dsimp only [K_takeNod] at hk
  refine or_aload_n E rfl dX6_takeNod_0 ?_
  refine or_iload_n E rfl dX6_takeNod_1 ?_
  refine or_cV1r (cK_hasBuyer  h_a ) E lk_6_156 dX6_takeNod_2 h_a.1 rfl rfl (by decide) (by decide) ⟨Nat.le_refl _, Nat.le_refl _⟩ (Nat.le_of_ble_eq_true rfl) ?_
  refine or_if_eqZ 41 E dX6_takeNod_5 rfl (fun q5 => ?_) (fun q5 => ?_)
  · replace hk := ite_n (P := fun r : ow_I => K none (S, r, V, z)) (bz_neg q5) hk
    exact or_vret E F dX6_takeNod_41 (Nat.le_refl _) (Nat.le_refl _) hk
  · replace hk := ite_p (P := fun r : ow_I => K none (S, r, V, z)) q5 hk
    refine or_aload_n E rfl dX6_takeNod_8 ?_
    refine or_aload_n E rfl dX6_takeNod_9 ?_
    refine or_cV0r (cK_nextPrice  h_a hV) E lk_6_173 dX6_takeNod_10 h_a.1 rfl rfl (by decide) (by decide) ⟨Nat.le_refl _, Nat.le_refl _⟩ (Nat.le_of_ble_eq_true rfl) ?_
    refine ot_putI E fl_6_44 fw_6_14 dX6_takeNod_13 h_a.1 rfl ?_
    obtain ⟨I1, hI1⟩ : ∃ y_ : ow_I, y_ = ow_u I a 14 (K_nextPrice a I) := ⟨_, rfl⟩
    replace hk := lt_k (P := fun r : ow_I => K none (S, r, V, z)) hI1 hk
    refine or_nmI hI1 ?_
    refine or_aload_n E rfl dX6_takeNod_16 ?_
    refine or_iload_n E rfl dX6_takeNod_17 ?_
    refine ot_putI E fl_6_47 fw_6_15 dX6_takeNod_18 h_a.1 rfl ?_
    obtain ⟨I2, hI2⟩ : ∃ y_ : ow_I, y_ = ow_u I1 a 15 x := ⟨_, rfl⟩
    replace hk := lt_k (P := fun r : ow_I => K none (S, r, V, z)) hI2 hk
    refine or_nmI hI2 ?_
    refine or_aload_n E rfl dX6_takeNod_21 ?_
    refine or_iconst (v := nI 0) E rfl dX6_takeNod_22 ?_
    refine ot_putI E fl_6_50 fw_6_16 dX6_takeNod_23 h_a.1 rfl ?_
    obtain ⟨I3, hI3⟩ : ∃ y_ : ow_I, y_ = ow_u I2 a 16 (nI 0) := ⟨_, rfl⟩
    replace hk := lt_k (P := fun r : ow_I => K none (S, r, V, z)) hI3 hk
    refine or_nmI hI3 ?_
    refine or_aload_n E rfl dX6_takeNod_26 ?_
    refine ot_getC E fl_6_27 dX6_takeNod_27 h_a.1 rfl ?_
    refine or_iload_n E rfl dX6_takeNod_30 ?_
    refine or_top (nI_tn (by subst hI3 hI2 hI1; exact (ky_1 q5).1)).symm ?_
    refine ot_aald (j := tn x) E dX6_takeNod_31 h_a.2.2.1 rfl rfl (by subst hI3 hI2 hI1; have := (ky_1 q5).2; have := hV.1.2; omega) (Nat.le_of_ble_eq_true rfl) ?_
    refine or_dup E rfl dX6_takeNod_32 ?_
    refine ot_getI E fl_6_184 dX6_takeNod_33 (h_a.2.2.2.2.2.1 (tn x) (by subst hI3 hI2 hI1; have := (ky_1 q5).2; have := hV.1.2; omega)) rfl ?_
    refine or_iconst (v := nI 1) E rfl dX6_takeNod_36 ?_
    refine or_iadd E dX6_takeNod_37 ?_
    refine ot_putI E fl_6_184 fw_2_4 dX6_takeNod_38 (h_a.2.2.2.2.2.1 (tn x) (by subst hI3 hI2 hI1; have := (ky_1 q5).2; have := hV.1.2; omega)) rfl ?_
    obtain ⟨I4, hI4⟩ : ∃ y_ : ow_I, y_ = ow_u I3 (a + 5 + (tn x)) 4 (I3 (a + 5 + (tn x)) 4 + (nI 1)) := ⟨_, rfl⟩
    replace hk := lt_k (P := fun r : ow_I => K none (S, r, V, z)) hI4 hk
    refine or_nmI hI4 ?_
    exact or_vret E F dX6_takeNod_41 (Nat.le_refl _) (Nat.le_refl _) hk
def K_sell (a : Nat) (k : Nat) (y : Nat) (I : ow_I) : ow_I :=
  lt (ow_u I y 0 (I y 0 - (K_withFee a (I a 14) I))) (fun (I1 : ow_I) => lt (ow_u I1 y 3 (I1 y 3 + (nI 1))) (fun (I2 : ow_I) => lt (ow_u I2 a 4 (I2 a 4 + (I2 a 14))) (fun (I3 : ow_I) => lt (ow_u I3 a 5 (I3 a 5 + (K_withFee a (I a 14) I - (I3 a 14)))) (fun (I4 : ow_I) => lt (ow_u I4 k 7 (nI 2)) (fun (I5 : ow_I) => lt (ow_u I5 k 8 (I5 a 15)) (fun (I6 : ow_I) => lt (ow_u I6 k 9 (I6 a 14)) (fun (I7 : ow_I) => I7)))))))
set_option maxRecDepth 100000 in
set_option maxHeartbeats 400000 in
theorem cK_sell {S : Nat → Option ow_Sh} {I : ow_I} {V : Nat → Nat → Value} {z : Nat} {a : Nat} {k : Nat} {y : Nat} (h_a : mk_S S a) (h_k : br_S S k) (h_y : by_S S y)  : ow_Cf yX6_sell cX6_sell 4 none 1 [.ref a, .ref k, .ref y] (S, I, V, z) none (S, K_sell a k y I, V, z) := by
  refine ow_Cf.of rfl (Nat.le_of_ble_eq_true rfl) (fun X K E F hk => ?_)
  have E : ow_E X RX6 cX6_sell 4 (ow_rm 1 0 0) := E
  refine or_lv [(0, .ref a), (1, .ref k), (2, .ref y)] rfl ?_
  dsimp only [K_sell] at hk
  refine or_aload_n E rfl dX6_sell_0 ?_
  refine or_aload_n E rfl dX6_sell_1 ?_
  refine ot_getI E fl_6_44 dX6_sell_2 h_a.1 rfl ?_
  refine or_cV1r (cK_withFee  h_a ) E lk_6_177 dX6_sell_5 h_a.1 rfl rfl (by decide) (by decide) ⟨Nat.le_refl _, Nat.le_refl _⟩ (Nat.le_of_ble_eq_true rfl) ?_
  refine or_istore_n E dX6_sell_8 (by decide) ?_
  refine or_aload_n E rfl dX6_sell_9 ?_
  refine or_dup E rfl dX6_sell_10 ?_
  refine ot_getI E fl_6_160 dX6_sell_11 h_y rfl ?_
  refine or_iload_n E rfl dX6_sell_14 ?_
  refine or_isub E dX6_sell_15 ?_
  refine ot_putI E fl_6_160 fw_2_0 dX6_sell_16 h_y rfl ?_
  obtain ⟨I1, hI1⟩ : ∃ y_ : ow_I, y_ = ow_u I y 0 (I y 0 - (K_withFee a (I a 14) I)) := ⟨_, rfl⟩
  replace hk := lt_k (P := fun r : ow_I => K none (S, r, V, z)) hI1 hk
  refine or_nmI hI1 ?_
  refine or_aload_n E rfl dX6_sell_19 ?_
  refine or_dup E rfl dX6_sell_20 ?_
  refine ot_getI E fl_6_252 dX6_sell_21 h_y rfl ?_
  refine or_iconst (v := nI 1) E rfl dX6_sell_24 ?_
  refine or_iadd E dX6_sell_25 ?_
  refine ot_putI E fl_6_252 fw_2_3 dX6_sell_26 h_y rfl ?_
  obtain ⟨I2, hI2⟩ : ∃ y_ : ow_I, y_ = ow_u I1 y 3 (I1 y 3 + (nI 1)) := ⟨_, rfl⟩
  replace hk := lt_k (P := fun r : ow_I => K none (S, r, V, z)) hI2 hk
  refine or_nmI hI2 ?_
  refine or_aload_n E rfl dX6_sell_29 ?_
  refine or_dup E rfl dX6_sell_30 ?_
  refine ot_getI E fl_6_62 dX6_sell_31 h_a.1 rfl ?_
  refine or_aload_n E rfl dX6_sell_34 ?_
  refine ot_getI E fl_6_44 dX6_sell_35 h_a.1 rfl ?_
  refine or_iadd E dX6_sell_38 ?_
  refine ot_putI E fl_6_62 fw_6_4 dX6_sell_39 h_a.1 rfl ?_
  obtain ⟨I3, hI3⟩ : ∃ y_ : ow_I, y_ = ow_u I2 a 4 (I2 a 4 + (I2 a 14)) := ⟨_, rfl⟩
  replace hk := lt_k (P := fun r : ow_I => K none (S, r, V, z)) hI3 hk
  refine or_nmI hI3 ?_
  refine or_aload_n E rfl dX6_sell_42 ?_
  refine or_dup E rfl dX6_sell_43 ?_
  refine ot_getI E fl_6_65 dX6_sell_44 h_a.1 rfl ?_
  refine or_iload_n E rfl dX6_sell_47 ?_
  refine or_aload_n E rfl dX6_sell_48 ?_
  refine ot_getI E fl_6_44 dX6_sell_49 h_a.1 rfl ?_
  refine or_isub E dX6_sell_52 ?_
  refine or_iadd E dX6_sell_53 ?_
  refine ot_putI E fl_6_65 fw_6_5 dX6_sell_54 h_a.1 rfl ?_
  obtain ⟨I4, hI4⟩ : ∃ y_ : ow_I, y_ = ow_u I3 a 5 (I3 a 5 + (K_withFee a (I a 14) I - (I3 a 14))) := ⟨_, rfl⟩
  replace hk := lt_k (P := fun r : ow_I => K none (S, r, V, z)) hI4 hk
  refine or_nmI hI4 ?_
  refine or_aload_n E rfl dX6_sell_57 ?_
  refine or_iconst (v := nI 2) E rfl dX6_sell_58 ?_
  refine ot_putI E fl_6_102 fw_1_7 dX6_sell_59 h_k.1 rfl ?_
  obtain ⟨I5, hI5⟩ : ∃ y_ : ow_I, y_ = ow_u I4 k 7 (nI 2) := ⟨_, rfl⟩
  replace hk := lt_k (P := fun r : ow_I => K none (S, r, V, z)) hI5 hk
  refine or_nmI hI5 ?_
  refine or_aload_n E rfl dX6_sell_62 ?_
  refine or_aload_n E rfl dX6_sell_63 ?_
  refine ot_getI E fl_6_47 dX6_sell_64 h_a.1 rfl ?_
  refine ot_putI E fl_6_255 fw_1_8 dX6_sell_67 h_k.1 rfl ?_
  obtain ⟨I6, hI6⟩ : ∃ y_ : ow_I, y_ = ow_u I5 k 8 (I5 a 15) := ⟨_, rfl⟩
  replace hk := lt_k (P := fun r : ow_I => K none (S, r, V, z)) hI6 hk
  refine or_nmI hI6 ?_
  refine or_aload_n E rfl dX6_sell_70 ?_
  refine or_aload_n E rfl dX6_sell_71 ?_
  refine ot_getI E fl_6_44 dX6_sell_72 h_a.1 rfl ?_
  refine ot_putI E fl_6_258 fw_1_9 dX6_sell_75 h_k.1 rfl ?_
  obtain ⟨I7, hI7⟩ : ∃ y_ : ow_I, y_ = ow_u I6 k 9 (I6 a 14) := ⟨_, rfl⟩
  replace hk := lt_k (P := fun r : ow_I => K none (S, r, V, z)) hI7 hk
  refine or_nmI hI7 ?_
  exact or_vret E F dX6_sell_78 (Nat.le_refl _) (Nat.le_refl _) hk
def K_sendBack (a : Nat) (x : Nat) (I : ow_I) : ow_I :=
  lt (ow_u I (a + 11 + 2 * x) 6 (I (a + 11 + 2 * x) 6 + (nI 1))) (fun (I1 : ow_I) => if I1 (a + 11 + 2 * x) 6 = nI 3 then lt (ow_u I1 (a + 11 + 2 * x) 7 (nI 3)) (fun (I4 : ow_I) => I4) else lt (ow_u I1 (a + 11 + 2 * x) 7 (nI 0)) (fun (I2 : ow_I) => lt (K_enqueue a (nI x) I2) (fun (I3 : ow_I) => I3)))
set_option maxRecDepth 100000 in
set_option maxHeartbeats 400000 in
theorem cK_sendBack {S : Nat → Option ow_Sh} {I : ow_I} {V : Nat → Nat → Value} {z : Nat} {a : Nat} {x : Nat} (h_a : mk_S S a) (hx : x < 20) (h12 : 0 ≤ I a 12) (h12b : tn (I a 12) ≤ 20) : ow_Cf yX6_sendBack cX6_sendBack 3 none 1 [.ref a, .int (nI x)] (S, I, V, z) none (S, K_sendBack a x I, V, z) := by
  refine ow_Cf.of rfl (Nat.le_of_ble_eq_true rfl) (fun X K E F hk => ?_)
  have E : ow_E X RX6 cX6_sendBack 3 (ow_rm 1 0 0) := E
  refine or_lv [(0, .ref a), (1, .int (nI x))] rfl ?_
  dsimp only [K_sendBack] at hk
  refine or_aload_n E rfl dX6_sendBack_0 ?_
  refine ot_getC E fl_6_33 dX6_sendBack_1 h_a.1 rfl ?_
  refine or_iload_n E rfl dX6_sendBack_4 ?_
  refine ot_aald (j := x) E dX6_sendBack_5 h_a.2.2.2.1 rfl rfl (by omega) (Nat.le_of_ble_eq_true rfl) ?_
  refine or_astore_n E dX6_sendBack_6 (by decide) ?_
  refine or_aload_n E rfl dX6_sendBack_7 ?_
  refine or_dup E rfl dX6_sendBack_8 ?_
  refine ot_getI E fl_6_261 dX6_sendBack_9 (h_a.2.2.2.2.2.2 x (by omega)).1 rfl ?_
  refine or_iconst (v := nI 1) E rfl dX6_sendBack_12 ?_
  refine or_iadd E dX6_sendBack_13 ?_
  refine ot_putI E fl_6_261 fw_1_6 dX6_sendBack_14 (h_a.2.2.2.2.2.2 x (by omega)).1 rfl ?_
  obtain ⟨I1, hI1⟩ : ∃ y_ : ow_I, y_ = ow_u I (a + 11 + 2 * x) 6 (I (a + 11 + 2 * x) 6 + (nI 1)) := ⟨_, rfl⟩
  replace hk := lt_k (P := fun r : ow_I => K none (S, r, V, z)) hI1 hk
  refine or_nmI hI1 ?_
  refine or_aload_n E rfl dX6_sendBack_17 ?_
  refine ot_getI E fl_6_261 dX6_sendBack_18 (h_a.2.2.2.2.2.2 x (by omega)).1 rfl ?_
  refine or_iconst (v := nI 3) E rfl dX6_sendBack_21 ?_
  refine or_icmp_ne 33 E dX6_sendBack_22 rfl (fun q22 => ?_) (fun q22 => ?_)
  · replace hk := ite_n (P := fun r : ow_I => K none (S, r, V, z)) q22 hk
    refine or_aload_n E rfl dX6_sendBack_33 ?_
    refine or_iconst (v := nI 0) E rfl dX6_sendBack_34 ?_
    refine ot_putI E fl_6_102 fw_1_7 dX6_sendBack_35 (h_a.2.2.2.2.2.2 x (by omega)).1 rfl ?_
    obtain ⟨I2, hI2⟩ : ∃ y_ : ow_I, y_ = ow_u I1 (a + 11 + 2 * x) 7 (nI 0) := ⟨_, rfl⟩
    replace hk := lt_k (P := fun r : ow_I => K none (S, r, V, z)) hI2 hk
    refine or_nmI hI2 ?_
    refine or_aload_n E rfl dX6_sendBack_38 ?_
    refine or_iload_n E rfl dX6_sendBack_39 ?_
    refine or_cV1v (cK_enqueue  h_a (by subst hI2 hI1; rw [rr_u (by omega), rr_u (by omega)]; exact h12) (by subst hI2 hI1; rw [rr_u (by omega), rr_u (by omega)]; exact h12b)) E lk_6_127 dX6_sendBack_40 h_a.1 rfl rfl (by decide) (by decide) ⟨Nat.le_refl _, Nat.le_refl _⟩ (Nat.le_of_ble_eq_true rfl) ?_
    obtain ⟨I3, hI3⟩ : ∃ y_ : ow_I, y_ = K_enqueue a (nI x) I2 := ⟨_, rfl⟩
    replace hk := lt_k (P := fun r : ow_I => K none (S, r, V, z)) hI3 hk
    refine or_nmI hI3 ?_
    exact or_vret E F dX6_sendBack_43 (Nat.le_refl _) (Nat.le_refl _) hk
  · replace hk := ite_p (P := fun r : ow_I => K none (S, r, V, z)) q22 hk
    refine or_aload_n E rfl dX6_sendBack_25 ?_
    refine or_iconst (v := nI 3) E rfl dX6_sendBack_26 ?_
    refine ot_putI E fl_6_102 fw_1_7 dX6_sendBack_27 (h_a.2.2.2.2.2.2 x (by omega)).1 rfl ?_
    obtain ⟨I4, hI4⟩ : ∃ y_ : ow_I, y_ = ow_u I1 (a + 11 + 2 * x) 7 (nI 3) := ⟨_, rfl⟩
    replace hk := lt_k (P := fun r : ow_I => K none (S, r, V, z)) hI4 hk
    refine or_nmI hI4 ?_
    refine or_goto 43 E dX6_sendBack_30 rfl ?_
    exact or_vret E F dX6_sendBack_43 (Nat.le_refl _) (Nat.le_refl _) hk
def K_openFirst (a : Nat) (I : ow_I) : ow_I :=
  if I a 12 ≤ 0 then I else lt (ow_u I a 13 (I (a + 4) 0)) (fun (I1 : ow_I) => lt (ow_u I1 a 16 (nI 0)) (fun (I2 : ow_I) => lt (ow_u I2 (a + 11 + 2 * (tn (I (a + 4) 0))) 7 (nI 1)) (fun (I3 : ow_I) => lt (K_dequeue a (I3 a 13) I3) (fun (I4 : ow_I) => I4))))
set_option maxRecDepth 100000 in
set_option maxHeartbeats 400000 in
theorem cK_openFirst {S : Nat → Option ow_Sh} {I : ow_I} {V : Nat → Nat → Value} {z : Nat} {a : Nat} (h_a : mk_S S a) (hV : k_V a I) : ow_Cf yX6_openFirst cX6_openFirst 1 none 1 [.ref a] (S, I, V, z) none (S, K_openFirst a I, V, z) := by
  refine ow_Cf.of rfl (Nat.le_of_ble_eq_true rfl) (fun X K E F hk => ?_)
  have E : ow_E X RX6 cX6_openFirst 1 (ow_rm 1 0 0) := E
  refine or_lv [(0, .ref a)] rfl ?_
  dsimp only [K_openFirst] at hk
  refine or_aload_n E rfl dX6_openFirst_0 ?_
  refine ot_getI E fl_6_89 dX6_openFirst_1 h_a.1 rfl ?_
  refine or_if_le 43 E dX6_openFirst_4 rfl (fun q4 => ?_) (fun q4 => ?_)
  · replace hk := ite_p (P := fun r : ow_I => K none (S, r, V, z)) q4 hk
    exact or_vret E F dX6_openFirst_43 (Nat.le_refl _) (Nat.le_refl _) hk
  · replace hk := ite_n (P := fun r : ow_I => K none (S, r, V, z)) q4 hk
    refine or_aload_n E rfl dX6_openFirst_7 ?_
    refine or_aload_n E rfl dX6_openFirst_8 ?_
    refine ot_getC E fl_6_37 dX6_openFirst_9 h_a.1 rfl ?_
    refine or_iconst (v := nI 0) E rfl dX6_openFirst_12 ?_
    refine ot_iald (j := 0) E dX6_openFirst_13 h_a.2.2.2.2.1 rfl rfl (by decide) (Nat.le_of_ble_eq_true rfl) ?_
    refine ot_putI E fl_6_41 fw_6_13 dX6_openFirst_14 h_a.1 rfl ?_
    obtain ⟨I1, hI1⟩ : ∃ y_ : ow_I, y_ = ow_u I a 13 (I (a + 4) 0) := ⟨_, rfl⟩
    replace hk := lt_k (P := fun r : ow_I => K none (S, r, V, z)) hI1 hk
    refine or_nmI hI1 ?_
    refine or_aload_n E rfl dX6_openFirst_17 ?_
    refine or_iconst (v := nI 0) E rfl dX6_openFirst_18 ?_
    refine ot_putI E fl_6_50 fw_6_16 dX6_openFirst_19 h_a.1 rfl ?_
    obtain ⟨I2, hI2⟩ : ∃ y_ : ow_I, y_ = ow_u I1 a 16 (nI 0) := ⟨_, rfl⟩
    replace hk := lt_k (P := fun r : ow_I => K none (S, r, V, z)) hI2 hk
    refine or_nmI hI2 ?_
    refine or_aload_n E rfl dX6_openFirst_22 ?_
    refine ot_getC E fl_6_33 dX6_openFirst_23 h_a.1 rfl ?_
    refine or_aload_n E rfl dX6_openFirst_26 ?_
    refine ot_getI E fl_6_41 dX6_openFirst_27 h_a.1 rfl ?_
    refine or_top (y := nI (tn (I (a + 4) 0))) (by subst hI2 hI1; rw [ow_u_k _ _ _ _ (by decide), ow_u_s]; exact (nI_tn (kq_1 hV q4).1).symm) ?_
    refine ot_aald (j := tn (I (a + 4) 0)) E dX6_openFirst_30 h_a.2.2.2.1 rfl rfl (kq_1 hV q4).2 (Nat.le_of_ble_eq_true rfl) ?_
    refine or_iconst (v := nI 1) E rfl dX6_openFirst_31 ?_
    refine ot_putI E fl_6_102 fw_1_7 dX6_openFirst_32 (h_a.2.2.2.2.2.2 (tn (I (a + 4) 0)) (kq_1 hV q4).2).1 rfl ?_
    obtain ⟨I3, hI3⟩ : ∃ y_ : ow_I, y_ = ow_u I2 (a + 11 + 2 * (tn (I (a + 4) 0))) 7 (nI 1) := ⟨_, rfl⟩
    replace hk := lt_k (P := fun r : ow_I => K none (S, r, V, z)) hI3 hk
    refine or_nmI hI3 ?_
    refine or_aload_n E rfl dX6_openFirst_35 ?_
    refine or_aload_n E rfl dX6_openFirst_36 ?_
    refine ot_getI E fl_6_41 dX6_openFirst_37 h_a.1 rfl ?_
    refine or_cV1v (cK_dequeue  h_a (by subst hI3 hI2 hI1; rw [rr_u (by omega), ow_u_k _ _ _ _ (by decide), ow_u_k _ _ _ _ (by decide)]; exact hV.2.2.1.1) (by subst hI3 hI2 hI1; rw [rr_u (by omega), ow_u_k _ _ _ _ (by decide), ow_u_k _ _ _ _ (by decide)]; exact hV.2.2.1.2)) E lk_6_153 dX6_openFirst_40 h_a.1 rfl rfl (by decide) (by decide) ⟨Nat.le_refl _, Nat.le_refl _⟩ (Nat.le_of_ble_eq_true rfl) ?_
    obtain ⟨I4, hI4⟩ : ∃ y_ : ow_I, y_ = K_dequeue a (I3 a 13) I3 := ⟨_, rfl⟩
    replace hk := lt_k (P := fun r : ow_I => K none (S, r, V, z)) hI4 hk
    refine or_nmI hI4 ?_
    exact or_vret E F dX6_openFirst_43 (Nat.le_refl _) (Nat.le_refl _) hk
