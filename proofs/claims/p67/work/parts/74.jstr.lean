theorem lk_100_335 : ow_lv RX100 335 yJ0_coder_7d493 cJ0_coder_7d493 1 (some .byte) 0 := ⟨ow_T_in 368 (by decide +kernel) (by decide +kernel), ow_T_in 369 (by decide +kernel) (by decide +kernel), ow_T_in 370 (by decide +kernel) (by decide +kernel), ow_T_in 14 (by decide +kernel) (by decide +kernel), ow_T_in 371 (by decide +kernel) (by decide +kernel), ⟨by decide +kernel, by decide +kernel, by decide +kernel⟩⟩
theorem lk_100_492 : ow_lv RX100 492 yJ0_isLatin1_aae02 cJ0_isLatin1_aae02 1 (some .boolean) 0 := ⟨ow_T_in 377 (by decide +kernel) (by decide +kernel), ow_T_in 378 (by decide +kernel) (by decide +kernel), ow_T_in 379 (by decide +kernel) (by decide +kernel), ow_T_in 14 (by decide +kernel) (by decide +kernel), ow_T_in 380 (by decide +kernel) (by decide +kernel), ⟨by decide +kernel, by decide +kernel, by decide +kernel⟩⟩
theorem lk_100_495 : ow_lt RX100 495 yJ1_charAt_3b067 cJ1_charAt_3b067 2 (some .char) 2 := ⟨ow_T_in 381 (by decide +kernel) (by decide +kernel), ow_T_in 382 (by decide +kernel) (by decide +kernel), ow_T_in 16 (by decide +kernel) (by decide +kernel), ow_T_in 383 (by decide +kernel) (by decide +kernel), ⟨by decide +kernel, by decide +kernel, by decide +kernel⟩⟩
theorem lk_100_1059 : ow_lt RX100 1059 yJ3_checkIndex_8e157 cJ3_checkIndex_8e157 3 (some .int) 3 := ⟨ow_T_in 389 (by decide +kernel) (by decide +kernel), ow_T_in 390 (by decide +kernel) (by decide +kernel), ow_T_in 17 (by decide +kernel) (by decide +kernel), ow_T_in 391 (by decide +kernel) (by decide +kernel), ⟨by decide +kernel, by decide +kernel, by decide +kernel⟩⟩
theorem lk_101_9 : ow_lt RX101 9 yJ0_checkIndex_df160 cJ0_checkIndex_df160 2 none 2 := ⟨ow_T_in 384 (by decide +kernel) (by decide +kernel), ow_T_in 385 (by decide +kernel) (by decide +kernel), ow_T_in 14 (by decide +kernel) (by decide +kernel), ow_T_in 386 (by decide +kernel) (by decide +kernel), ⟨by decide +kernel, by decide +kernel, by decide +kernel⟩⟩
theorem wt_372 : Cond.fieldLink "java/lang/String" 38 "java/lang/String" "COMPACT_STRINGS" "Z" ∈ ow_T := ow_T_in 372 (by decide +kernel) (by decide +kernel)
theorem wt_387 : Cond.fieldLink "java/lang/String" 1053 "jdk/internal/util/Preconditions" "SIOOBE_FORMATTER" "Ljava/util/function/BiFunction;" ∈ ow_T := ow_T_in 387 (by decide +kernel) (by decide +kernel)
theorem wt_750 : Cond.fieldLink "java/lang/String" 9 "java/lang/String" "value" "[B" ∈ ow_T := ow_T_in 750 (by decide +kernel) (by decide +kernel)
theorem wt_751 : Cond.fieldLink "java/lang/String" 15 "java/lang/String" "coder" "B" ∈ ow_T := ow_T_in 751 (by decide +kernel) (by decide +kernel)
def j0_isLatin1_aae02 (w : Nat) (I : ow_I) : Bool :=
  true
set_option maxRecDepth 100000 in
set_option maxHeartbeats 400000 in
theorem cj0_isLatin1_aae02 {Z : Nat → Nat} {S : Nat → Option ow_Sh} {I : ow_I} {V : Nat → Nat → Value} {z : Nat} {w : Nat} (h_w : st_S S w)  : ow_Cx Z yJ0_isLatin1_aae02 cJ0_isLatin1_aae02 1 (some .boolean) 0 0 0 [.ref (Z w)] (S, I, V, z) (ox_s S V z 0 (some (.int (bi (j0_isLatin1_aae02 w I)))) I) := by
  refine ow_Cx.off rfl (Nat.le_of_ble_eq_true rfl) (fun X K E G F hk => ?_)
  have E : ow_E X RX100 cJ0_isLatin1_aae02 1 (ow_rm 0 0 0) := E
  refine or_lv [(0, .ref (Z w))] rfl ?_
  try dsimp only [j0_isLatin1_aae02] at hk
  refine or_gs E (og_cz G) wt_372 dJ0_isLatin1_aae02_0 ?_
  refine or_if_eqN 17 E dJ0_isLatin1_aae02_3 rfl (by omega) (fun q3 => absurd q3 (by decide)) (fun q3 => ?_)
  refine or_aload_n E rfl dJ0_isLatin1_aae02_6 ?_
  refine or_gf E (og_sz (og_1 G h_w)) wt_751 dJ0_isLatin1_aae02_7 ?_
  refine or_if_neN 17 E dJ0_isLatin1_aae02_10 rfl (by omega) (fun q10 => absurd q10 (by decide)) (fun q10 => ?_)
  refine or_iconst (v := nI 1) E rfl dJ0_isLatin1_aae02_13 ?_
  refine or_goto 18 E dJ0_isLatin1_aae02_14 rfl ?_
  exact or_xr E F (fun X' E' F' => or_zret E' F' dJ0_isLatin1_aae02_18 (Nat.le_of_ble_eq_true rfl) (Nat.le_of_ble_eq_true rfl) (bi_nar true) (hk.1 rfl))
def j0_coder_7d493 (w : Nat) (I : ow_I) : Nat :=
  0
set_option maxRecDepth 100000 in
set_option maxHeartbeats 400000 in
theorem cj0_coder_7d493 {Z : Nat → Nat} {S : Nat → Option ow_Sh} {I : ow_I} {V : Nat → Nat → Value} {z : Nat} {w : Nat} (h_w : st_S S w)  : ow_Cx Z yJ0_coder_7d493 cJ0_coder_7d493 1 (some .byte) 0 0 0 [.ref (Z w)] (S, I, V, z) (ox_s S V z 0 (some (.int (nI (j0_coder_7d493 w I)))) I) := by
  refine ow_Cx.off rfl (Nat.le_of_ble_eq_true rfl) (fun X K E G F hk => ?_)
  have E : ow_E X RX100 cJ0_coder_7d493 1 (ow_rm 0 0 0) := E
  refine or_lv [(0, .ref (Z w))] rfl ?_
  try dsimp only [j0_coder_7d493] at hk
  refine or_gs E (og_cz G) wt_372 dJ0_coder_7d493_0 ?_
  refine or_if_eqN 13 E dJ0_coder_7d493_3 rfl (by omega) (fun q3 => absurd q3 (by decide)) (fun q3 => ?_)
  refine or_aload_n E rfl dJ0_coder_7d493_6 ?_
  refine or_gf E (og_sz (og_1 G h_w)) wt_751 dJ0_coder_7d493_7 ?_
  refine or_goto 14 E dJ0_coder_7d493_10 rfl ?_
  exact or_xr E F (fun X' E' F' => or_nret E' F' dJ0_coder_7d493_14 (Nat.le_of_ble_eq_true rfl) (Nat.le_of_ble_eq_true rfl) (by decide) (hk.1 rfl))
def j0_length_8abf5 (w : Nat) (I : ow_I) : Nat :=
  gl_len w
set_option maxRecDepth 100000 in
set_option maxHeartbeats 400000 in
theorem cj0_length_8abf5 {Z : Nat → Nat} {S : Nat → Option ow_Sh} {I : ow_I} {V : Nat → Nat → Value} {z : Nat} {w : Nat} (h_w : st_S S w)  : ow_Cx Z yJ0_length_8abf5 cJ0_length_8abf5 1 (some .int) 1 0 0 [.ref (Z w)] (S, I, V, z) (ox_s S V z 0 (some (.int (nI (j0_length_8abf5 w I)))) I) := by
  refine ow_Cx.off rfl (Nat.le_of_ble_eq_true rfl) (fun X K E G F hk => ?_)
  have E : ow_E X RX100 cJ0_length_8abf5 1 (ow_rm 1 0 0) := E
  refine or_lv [(0, .ref (Z w))] rfl ?_
  try dsimp only [j0_length_8abf5] at hk
  refine or_aload_n E rfl dJ0_length_8abf5_0 ?_
  refine or_gf E (og_sv (og_1 G h_w)) wt_750 dJ0_length_8abf5_1 ?_
  refine or_glen E (og_st (og_1 G h_w)) dJ0_length_8abf5_4 ?_
  refine or_aload_n E rfl dJ0_length_8abf5_5 ?_
  refine or_gV0r (cj0_coder_7d493 (Z := Z) (w := w) h_w ) E G F lk_100_335 dJ0_length_8abf5_6 (og_so (og_1 G h_w)) (by decide) (by decide) ⟨(Nat.le_of_ble_eq_true rfl), (Nat.le_of_ble_eq_true rfl)⟩ (Nat.le_of_ble_eq_true rfl) (fun _ => ?_) (fun h => absurd h (Nat.lt_irrefl 0))
  refine or_top (y := nI 0) rfl ?_
  refine or_ishr E dJ0_length_8abf5_9 ?_
  refine or_top (y := nI (gl_len w)) (sb_shr0 _) ?_
  exact or_xr E F (fun X' E' F' => or_iret E' F' dJ0_length_8abf5_10 (Nat.le_of_ble_eq_true rfl) (Nat.le_of_ble_eq_true rfl) (hk.1 rfl))
def j3_checkIndex_8e157 (i : Nat) (n : Nat) (f : Value) (I : ow_I) : Nat :=
  i
set_option maxRecDepth 100000 in
set_option maxHeartbeats 400000 in
theorem cj3_checkIndex_8e157 {Z : Nat → Nat} {S : Nat → Option ow_Sh} {I : ow_I} {V : Nat → Nat → Value} {z : Nat} {i : Nat} {n : Nat} {f : Value}  (hi : i < n) (hn : n < 2 ^ 31) (hf : f = .null ∨ ∃ a, f = .ref a) : ow_Cx Z yJ3_checkIndex_8e157 cJ3_checkIndex_8e157 3 (some .int) 0 0 0 [.int (nI i), .int (nI n), f] (S, I, V, z) (ox_s S V z 0 (some (.int (nI (j3_checkIndex_8e157 i n f I)))) I) := by
  refine ow_Cx.off rfl (by rcases hf with rfl | ⟨a, rfl⟩ <;> exact Nat.le_of_ble_eq_true rfl) (fun X K E G F hk => ?_)
  have E : ow_E X RX103 cJ3_checkIndex_8e157 3 (ow_rm 0 0 0) := E
  refine or_lv [(0, .int (nI i)), (1, .int (nI n))] rfl ?_
  try dsimp only [j3_checkIndex_8e157] at hk
  refine or_iload_n E rfl dJ3_checkIndex_8e157_0 ?_
  refine or_if_lt 9 E dJ3_checkIndex_8e157_1 rfl (fun q1 => absurd q1 (nI_pos (by omega))) (fun q1 => ?_)
  refine or_iload_n E rfl dJ3_checkIndex_8e157_4 ?_
  refine or_iload_n E rfl dJ3_checkIndex_8e157_5 ?_
  refine or_icmp_ltN 16 E dJ3_checkIndex_8e157_6 rfl (by omega) (by omega) (fun q6 => ?_) (fun q6 => absurd hi q6)
  refine or_iload_n E rfl dJ3_checkIndex_8e157_16 ?_
  exact or_xr E F (fun X' E' F' => or_iret E' F' dJ3_checkIndex_8e157_17 (Nat.le_of_ble_eq_true rfl) (Nat.le_of_ble_eq_true rfl) (hk.1 rfl))
def j0_checkIndex_df160 (i : Nat) (n : Nat) (I : ow_I) : ow_I :=
  I
set_option maxRecDepth 100000 in
set_option maxHeartbeats 400000 in
theorem cj0_checkIndex_df160 {Z : Nat → Nat} {S : Nat → Option ow_Sh} {I : ow_I} {V : Nat → Nat → Value} {z : Nat} {i : Nat} {n : Nat}  (hi : i < n) (hn : n < 2 ^ 31) : ow_Cx Z yJ0_checkIndex_df160 cJ0_checkIndex_df160 2 none 1 0 0 [.int (nI i), .int (nI n)] (S, I, V, z) (ox_s S V z 0 none I) := by
  refine ow_Cx.off rfl (Nat.le_of_ble_eq_true rfl) (fun X K E G F hk => ?_)
  have E : ow_E X RX100 cJ0_checkIndex_df160 2 (ow_rm 1 0 0) := E
  refine or_lv [(0, .int (nI i)), (1, .int (nI n))] rfl ?_
  try dsimp only [j0_checkIndex_df160] at hk
  refine or_iload_n E rfl dJ0_checkIndex_df160_0 ?_
  refine or_iload_n E rfl dJ0_checkIndex_df160_1 ?_
  refine or_gsq E (og_5 G) wt_387 dJ0_checkIndex_df160_2 (fun v1 hv1 => ?_)
  refine or_fT3r (cj3_checkIndex_8e157 (Z := Z) (f := v1)  hi hn hv1) E G F lk_100_1059 dJ0_checkIndex_df160_5 (by decide) (by decide) ⟨(Nat.le_of_ble_eq_true rfl), (Nat.le_of_ble_eq_true rfl)⟩ (Nat.le_of_ble_eq_true rfl) (fun _ => ?_) (fun h => absurd h (Nat.lt_irrefl 0))
  refine or_pop E rfl dJ0_checkIndex_df160_8 ?_
  exact or_xr E F (fun X' E' F' => or_vret E' F' dJ0_checkIndex_df160_9 (Nat.le_of_ble_eq_true rfl) (Nat.le_of_ble_eq_true rfl) (hk.1 rfl))
def j1_charAt_3b067 (w : Nat) (i : Nat) (I : ow_I) : Nat :=
  gl_ch w i
set_option maxRecDepth 100000 in
set_option maxHeartbeats 400000 in
theorem cj1_charAt_3b067 {Z : Nat → Nat} {S : Nat → Option ow_Sh} {I : ow_I} {V : Nat → Nat → Value} {z : Nat} {w : Nat} {i : Nat} (h_w : st_S S w) (hi : i < gl_len w) : ow_Cx Z yJ1_charAt_3b067 cJ1_charAt_3b067 2 (some .char) 2 0 0 [.ref (Z (20 + w)), .int (nI i)] (S, I, V, z) (ox_s S V z 0 (some (.int (nI (j1_charAt_3b067 w i I)))) I) := by
  refine ow_Cx.off rfl (Nat.le_of_ble_eq_true rfl) (fun X K E G F hk => ?_)
  have E : ow_E X RX101 cJ1_charAt_3b067 2 (ow_rm 2 0 0) := E
  refine or_lv [(0, .ref (Z (20 + w))), (1, .int (nI i))] rfl ?_
  try dsimp only [j1_charAt_3b067] at hk
  refine or_iload_n E rfl dJ1_charAt_3b067_0 ?_
  refine or_aload_n E rfl dJ1_charAt_3b067_1 ?_
  refine or_glen E (og_st (og_1 G h_w)) dJ1_charAt_3b067_2 ?_
  refine or_fT2v (cj0_checkIndex_df160 (Z := Z)   hi (gl_lb h_w)) E G F lk_101_9 dJ1_charAt_3b067_3 (by decide) (by decide) ⟨(Nat.le_of_ble_eq_true rfl), (Nat.le_of_ble_eq_true rfl)⟩ (Nat.le_of_ble_eq_true rfl) (fun _ => ?_) (fun h => absurd h (Nat.lt_irrefl 0))
  refine or_aload_n E rfl dJ1_charAt_3b067_6 ?_
  refine or_iload_n E rfl dJ1_charAt_3b067_7 ?_
  refine or_gba (j := i) E (og_st (og_1 G h_w)) hi (gl_lb h_w) dJ1_charAt_3b067_8 ?_
  refine or_sipush (v := nI 255) E rfl dJ1_charAt_3b067_9 ?_
  refine or_iand E dJ1_charAt_3b067_12 ?_
  refine or_i2c (v := nI (gl_ch w i)) E (chr_c (gl_cb _ _)) dJ1_charAt_3b067_13 ?_
  exact or_xr E F (fun X' E' F' => or_nret E' F' dJ1_charAt_3b067_14 (Nat.le_of_ble_eq_true rfl) (Nat.le_of_ble_eq_true rfl) (nar_c (Nat.lt_trans (gl_cb _ _) (by decide))) (hk.1 rfl))
def j0_charAt_5068e (w : Nat) (i : Nat) (I : ow_I) : Nat :=
  gl_ch w i
set_option maxRecDepth 100000 in
set_option maxHeartbeats 400000 in
theorem cj0_charAt_5068e {Z : Nat → Nat} {S : Nat → Option ow_Sh} {I : ow_I} {V : Nat → Nat → Value} {z : Nat} {w : Nat} {i : Nat} (h_w : st_S S w) (hi : i < gl_len w) : ow_Cx Z yJ0_charAt_5068e cJ0_charAt_5068e 2 (some .char) 3 0 0 [.ref (Z w), .int (nI i)] (S, I, V, z) (ox_s S V z 0 (some (.int (nI (j0_charAt_5068e w i I)))) I) := by
  refine ow_Cx.off rfl (Nat.le_of_ble_eq_true rfl) (fun X K E G F hk => ?_)
  have E : ow_E X RX100 cJ0_charAt_5068e 2 (ow_rm 3 0 0) := E
  refine or_lv [(0, .ref (Z w)), (1, .int (nI i))] rfl ?_
  try dsimp only [j0_charAt_5068e] at hk
  refine or_aload_n E rfl dJ0_charAt_5068e_0 ?_
  refine or_gV0r (cj0_isLatin1_aae02 (Z := Z) (w := w) h_w ) E G F lk_100_492 dJ0_charAt_5068e_1 (og_so (og_1 G h_w)) (by decide) (by decide) ⟨(Nat.le_of_ble_eq_true rfl), (Nat.le_of_ble_eq_true rfl)⟩ (Nat.le_of_ble_eq_true rfl) (fun _ => ?_) (fun h => absurd h (Nat.lt_irrefl 0))
  refine or_top (y := bi true) rfl ?_
  refine or_if_eqZ 16 E dJ0_charAt_5068e_4 rfl (fun q4 => absurd q4 (by decide)) (fun q4 => ?_)
  refine or_aload_n E rfl dJ0_charAt_5068e_7 ?_
  refine or_gf E (og_sv (og_1 G h_w)) wt_750 dJ0_charAt_5068e_8 ?_
  refine or_iload_n E rfl dJ0_charAt_5068e_11 ?_
  refine or_fT2r (cj1_charAt_3b067 (Z := Z) (w := w) h_w hi) E G F lk_100_495 dJ0_charAt_5068e_12 (by decide) (by decide) ⟨(Nat.le_of_ble_eq_true rfl), (Nat.le_of_ble_eq_true rfl)⟩ (Nat.le_of_ble_eq_true rfl) (fun _ => ?_) (fun h => absurd h (Nat.lt_irrefl 0))
  refine or_top (y := nI (gl_ch w i)) rfl ?_
  exact or_xr E F (fun X' E' F' => or_nret E' F' dJ0_charAt_5068e_15 (Nat.le_of_ble_eq_true rfl) (Nat.le_of_ble_eq_true rfl) (nar_c (Nat.lt_trans (gl_cb _ _) (by decide))) (hk.1 rfl))
