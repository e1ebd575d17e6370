theorem lm_105_138 : ow_lm RX105 138 Lib.Math.min.name Lib.Math.min.code := ⟨ow_T_in 1056 (by decide +kernel) (by decide +kernel), ow_T_in 456 (by decide +kernel) (by decide +kernel), ow_T_in 18 (by decide +kernel) (by decide +kernel), ow_T_in 457 (by decide +kernel) (by decide +kernel)⟩
theorem fl_105_73 : ow_fl RX105 73 12 2 := ⟨_, rfl, by decide, ow_T_in 365 (by decide +kernel) (by decide +kernel), ow_ok12⟩
theorem fw_12_3 : ∃ r : vw_C, ow_cl[12]? = some r ∧ (r.2.1 3).2.2.2 = false ∧ parseFieldDescriptor (r.2.1 3).2.2.1 = some .int := ⟨_, rfl, rfl, by decide +kernel⟩
theorem lk_105_144 : ow_lt RX105 144 yJ0_checkIndex_df160 cJ0_checkIndex_df160 2 none 2 := ⟨ow_T_in 1057 (by decide +kernel) (by decide +kernel), ow_T_in 404 (by decide +kernel) (by decide +kernel), ow_T_in 14 (by decide +kernel) (by decide +kernel), ow_T_in 405 (by decide +kernel) (by decide +kernel), ⟨by decide +kernel, by decide +kernel, by decide +kernel⟩⟩
theorem lk_105_191 : ow_lt RX105 191 yJ1_canEncode_fc78d cJ1_canEncode_fc78d 1 (some .boolean) 1 := ⟨ow_T_in 1037 (by decide +kernel) (by decide +kernel), ow_T_in 1038 (by decide +kernel) (by decide +kernel), ow_T_in 16 (by decide +kernel) (by decide +kernel), ow_T_in 1039 (by decide +kernel) (by decide +kernel), ⟨by decide +kernel, by decide +kernel, by decide +kernel⟩⟩
theorem lk_105_245 : ow_lt RX105 245 yJ6_stringSize_0f7a4 cJ6_stringSize_0f7a4 4 (some .int) 1 := ⟨ow_T_in 830 (by decide +kernel) (by decide +kernel), ow_T_in 831 (by decide +kernel) (by decide +kernel), ow_T_in 33 (by decide +kernel) (by decide +kernel), ow_T_in 832 (by decide +kernel) (by decide +kernel), ⟨by decide +kernel, by decide +kernel, by decide +kernel⟩⟩
theorem lk_105_248 : ow_lt RX105 248 yJ6_getChars_ba4f3 cJ6_getChars_ba4f3 7 (some .int) 3 := ⟨ow_T_in 833 (by decide +kernel) (by decide +kernel), ow_T_in 834 (by decide +kernel) (by decide +kernel), ow_T_in 33 (by decide +kernel) (by decide +kernel), ow_T_in 835 (by decide +kernel) (by decide +kernel), ⟨by decide +kernel, by decide +kernel, by decide +kernel⟩⟩
theorem fwz_2 : ∃ r : vw_C, ow_cl[12]? = some r ∧ (r.2.1 2).2.2.2 = false ∧ parseFieldDescriptor (r.2.1 2).2.2.1 = some .boolean := ⟨_, rfl, rfl, by decide +kernel⟩
def sb_Q (o b n : Nat) (t : Nat → Nat) (h : ow_H) (r0 : Option Value) : Nat → Option Value → ow_H → Prop := fun c r h1 => c = 0 ∧ r = r0 ∧ ∃ b1, sb_X o b1 n t h1 ∧ sb_K o b b1 h h1
theorem i8_i8 (x : Int32) : x.toInt8.toInt32.toInt8.toInt32 = x.toInt8.toInt32 := by simp
set_option maxRecDepth 100000 in
set_option maxHeartbeats 400000 in
theorem cj5_appendC {Z : Nat → Nat} {S : Nat → Option ow_Sh} {I : ow_I} {V : Nat → Nat → Value} {z o b n ch : Nat} {t : Nat → Nat} (hX : sb_X o b n t (S, I, V, z)) (hq : n + 1 ≤ 64) (hch : ch < 256) : ow_Cx Z yJ5_append_3fe6f cJ5_append_3fe6f 2 (some (.object "java/lang/AbstractStringBuilder")) 4 1 130 [.ref o, .int (nI ch)] (S, I, V, z) (sb_Q o b (n + 1) (sb_cat t n (fun _ => ch)) (S, I, V, z) (some (.ref o))) := by
  obtain ⟨K, hK⟩ : ∃ K : Nat → Option Value → ow_H → Prop, K = (sb_Q o b (n + 1) (sb_cat t n (fun _ => ch)) (S, I, V, z) (some (.ref o))) := ⟨_, rfl⟩
  rw [← hK]
  refine ow_Cx.of rfl (Nat.le_of_ble_eq_true rfl) (fun X E G F => ?_)
  have E : ow_E X RX105 cJ5_append_3fe6f 2 (ow_rm 4 1 130) := E
  have hX0 := hX
  obtain ⟨hS, hb, hc, hn, m, hB, hnm, hm, hL, hf⟩ := hX
  dsimp only at hS hb hc hn hB hL hf
  refine or_lv [(0, .ref o), (1, .int (nI ch))] rfl ?_
  refine or_aload_n E rfl dJ5_append_3fe6f_0 ?_
  refine or_aload_n E rfl dJ5_append_3fe6f_1 ?_
  refine ot_getI E fl_105_79 dJ5_append_3fe6f_2 hS rfl ?_
  rw [hn]
  refine or_iconst (v := nI 1) E rfl dJ5_append_3fe6f_5 ?_
  refine or_iaddN E dJ5_append_3fe6f_6 ?_
  refine or_kD1 (cj5_ensure (Z := Z) hX0 hq) E G F ld_105_100 dJ5_append_3fe6f_7 hS rfl sel_en (by decide) (by decide) ⟨by decide, by decide⟩ (Nat.le_of_ble_eq_true rfl) (fun r h1 q => ?_) (fun c' h1 hc' q => absurd q.1 (Nat.pos_iff_ne_zero.mp hc'))
  obtain ⟨-, rfl, b1, m1, hX1, hK1, hB1, hq1⟩ := q
  obtain ⟨S1, I1, V1, z1⟩ := h1
  have hX2 := hX1
  have hob := sb_ne hX1
  obtain ⟨gS, gb, gc, gn, m2, gB, gnm, gm, gL, gf⟩ := hX1
  dsimp only at gS gb gc gn gB gL gf hB1
  cases gB.symm.trans hB1
  refine or_aload_n E rfl dJ5_append_3fe6f_10 ?_
  refine or_kD0 (cj5_isLatin1_aae02 (Z := Z) gS gc) E G F ld_105_83 dJ5_append_3fe6f_11 gS rfl sel_l1 (by decide) (by decide) ⟨by decide, by decide⟩ (Nat.le_of_ble_eq_true rfl) (fun r h1 q2 => ?_) (fun c' h1 hc' q => absurd q.1 (Nat.pos_iff_ne_zero.mp hc'))
  obtain ⟨rfl, rfl⟩ := q2.2.1 rfl
  refine or_if_eqZ (b := true) 45 E dJ5_append_3fe6f_14 rfl (fun q => absurd q (by decide)) (fun _ => ?_)
  refine or_iload_n E rfl dJ5_append_3fe6f_17 ?_
  refine or_fT1r (cj1_canEncode_fc78d (Z := Z) hch) E G F lk_105_191 dJ5_append_3fe6f_18 (by decide) (by decide) ⟨by decide, by decide⟩ (Nat.le_of_ble_eq_true rfl) (fun _ => ?_) (fun h => absurd h (Nat.lt_irrefl 0))
  refine or_if_eqZ (b := true) 45 E dJ5_append_3fe6f_21 rfl (fun q => absurd q (by decide)) (fun _ => ?_)
  refine or_aload_n E rfl dJ5_append_3fe6f_24 ?_
  refine ot_getV E fl_105_15 dJ5_append_3fe6f_25 gS rfl ?_
  rw [gb]
  refine or_aload_n E rfl dJ5_append_3fe6f_28 ?_
  refine or_dup E rfl dJ5_append_3fe6f_29 ?_
  refine ot_getI E fl_105_79 dJ5_append_3fe6f_30 gS rfl ?_
  rw [gn]
  refine or_dup_x1 E rfl rfl dJ5_append_3fe6f_33 ?_
  refine or_iconst (v := nI 1) E rfl dJ5_append_3fe6f_34 ?_
  refine or_iaddN E dJ5_append_3fe6f_35 ?_
  refine ot_putI E fl_105_79 fw_12_3 dJ5_append_3fe6f_36 gS rfl ?_
  refine or_iload_n E rfl dJ5_append_3fe6f_39 ?_
  refine or_i2b E dJ5_append_3fe6f_40 ?_
  refine ot_bast (j := n) E dJ5_append_3fe6f_41 gB rfl rfl (by omega) (by omega) ?_
  refine or_goto 75 E dJ5_append_3fe6f_42 rfl ?_
  refine or_aload_n E rfl dJ5_append_3fe6f_75 ?_
  refine or_xr E F (fun X' E' F' => or_aret E' F' (Or.inl ⟨_, rfl⟩) (Or.inr ⟨_, rfl⟩) dJ5_append_3fe6f_76 (Nat.le_of_ble_eq_true rfl) (Nat.le_of_ble_eq_true rfl) ?_)
  rw [hK]
  refine ⟨rfl, rfl, b1, ⟨gS, gb, ?_, ?_, _, gB, by omega, gm, sb_latPut gL (fun j hj => ?_) (fun i hi => ?_), fun j => ?_⟩, hK1.wr (fun a h0 hb9 => ?_)⟩
  · show ow_u _ b1 n _ o 1 = 0
    rw [ow_u_a _ _ _ _ hob, ow_u_k _ _ _ _ (by decide)]
    exact gc
  · show ow_u _ b1 n _ o 3 = nI (n + 1)
    rw [ow_u_a _ _ _ _ hob, ow_u_s]
  · show ow_u _ b1 n _ b1 j = I1 b1 j
    rw [ow_u_k _ _ _ _ (by omega), ow_u_a _ _ _ _ (Ne.symm hob)]
  · obtain rfl : i = 0 := by omega
    refine ⟨hch, ?_⟩
    show ow_u _ b1 n _ b1 n = sb_b ch
    rw [ow_u_s]
    exact i8_i8 _
  · show fits .byte (.int (ow_u _ b1 n _ b1 j)) = true
    by_cases e : j = n
    · rw [e, ow_u_s]
      exact pk_fb _
    · rw [ow_u_k _ _ _ _ e, ow_u_a _ _ _ _ (Ne.symm hob)]
      exact gf j
  · funext j
    rw [ow_u_a _ _ _ _ hb9, ow_u_a _ _ _ _ h0]
set_option maxRecDepth 100000 in
set_option maxHeartbeats 400000 in
theorem cj5_appendI {Z : Nat → Nat} {S : Nat → Option ow_Sh} {I : ow_I} {V : Nat → Nat → Value} {z o b n v : Nat} {t : Nat → Nat} (hX : sb_X o b n t (S, I, V, z)) (hv : v < 2 ^ 31) (hq : n + sb_dg v ≤ 64) : ow_Cx Z yJ5_append_c97b9 cJ5_append_c97b9 4 (some (.object "java/lang/AbstractStringBuilder")) 4 1 130 [.ref o, .int (nI v)] (S, I, V, z) (sb_Q o b (n + sb_dg v) (sb_cat t n (sb_dec v)) (S, I, V, z) (some (.ref o))) := by
  obtain ⟨K, hK⟩ : ∃ K : Nat → Option Value → ow_H → Prop, K = (sb_Q o b (n + sb_dg v) (sb_cat t n (sb_dec v)) (S, I, V, z) (some (.ref o))) := ⟨_, rfl⟩
  rw [← hK]
  refine ow_Cx.of rfl (Nat.le_of_ble_eq_true rfl) (fun X E G F => ?_)
  have E : ow_E X RX105 cJ5_append_c97b9 4 (ow_rm 4 1 130) := E
  have hX0 := hX
  obtain ⟨hS, hb, hc, hn, m, hB, hnm, hm, hL, hf⟩ := hX
  dsimp only at hS hb hc hn hB hL hf
  refine or_lv [(0, .ref o), (1, .int (nI v))] rfl ?_
  refine or_aload_n E rfl dJ5_append_c97b9_0 ?_
  refine ot_getI E fl_105_79 dJ5_append_c97b9_1 hS rfl ?_
  rw [hn]
  refine or_istore_n E dJ5_append_c97b9_4 (by decide) ?_
  refine or_iload_n E rfl dJ5_append_c97b9_5 ?_
  refine or_iload_n E rfl dJ5_append_c97b9_6 ?_
  refine or_fT1r (cj6_stringSize_0f7a4 (Z := Z) hv) E G F lk_105_245 dJ5_append_c97b9_7 (by decide) (by decide) ⟨by decide, by decide⟩ (Nat.le_of_ble_eq_true rfl) (fun _ => ?_) (fun h => absurd h (Nat.lt_irrefl 0))
  refine or_top (y := nI (sb_dg v)) (congrArg nI (j6_size hv)) ?_
  refine or_iaddN E dJ5_append_c97b9_10 ?_
  refine or_istore_n E dJ5_append_c97b9_11 (by decide) ?_
  refine or_aload_n E rfl dJ5_append_c97b9_12 ?_
  refine or_iload_n E rfl dJ5_append_c97b9_13 ?_
  refine or_kD1 (cj5_ensure (Z := Z) hX0 hq) E G F ld_105_100 dJ5_append_c97b9_14 hS rfl sel_en (by decide) (by decide) ⟨by decide, by decide⟩ (Nat.le_of_ble_eq_true rfl) (fun r h1 q => ?_) (fun c' h1 hc' q => absurd q.1 (Nat.pos_iff_ne_zero.mp hc'))
  obtain ⟨-, rfl, b1, m1, hX1, hK1, hB1, hq1⟩ := q
  obtain ⟨S1, I1, V1, z1⟩ := h1
  have hX2 := hX1
  have hob := sb_ne hX1
  obtain ⟨gS, gb, gc, gn, m2, gB, gnm, gm, gL, gf⟩ := hX1
  dsimp only at gS gb gc gn gB gL gf hB1
  cases gB.symm.trans hB1
  refine or_aload_n E rfl dJ5_append_c97b9_17 ?_
  refine or_kD0 (cj5_isLatin1_aae02 (Z := Z) gS gc) E G F ld_105_83 dJ5_append_c97b9_18 gS rfl sel_l1 (by decide) (by decide) ⟨by decide, by decide⟩ (Nat.le_of_ble_eq_true rfl) (fun r h1 q2 => ?_) (fun c' h1 hc' q => absurd q.1 (Nat.pos_iff_ne_zero.mp hc'))
  obtain ⟨rfl, rfl⟩ := q2.2.1 rfl
  refine or_if_eqZ (b := true) 37 E dJ5_append_c97b9_21 rfl (fun q => absurd q (by decide)) (fun _ => ?_)
  refine or_iload_n E rfl dJ5_append_c97b9_24 ?_
  refine or_iload_n E rfl dJ5_append_c97b9_25 ?_
  refine or_aload_n E rfl dJ5_append_c97b9_26 ?_
  refine ot_getV E fl_105_15 dJ5_append_c97b9_27 gS rfl ?_
  rw [gb]
  refine or_kT3 (cj6_getChars (Z := Z) hv rfl hq1 (by omega) gB) E G F lk_105_248 dJ5_append_c97b9_30 (by decide) (by decide) ⟨by decide, by decide⟩ (Nat.le_of_ble_eq_true rfl) (fun r h1 q => ?_) (fun c' h1 hc' q => absurd q.1 (Nat.pos_iff_ne_zero.mp hc'))
  obtain ⟨-, rfl, I2, rfl, e1, e2⟩ := q
  refine or_pop E rfl dJ5_append_c97b9_33 ?_
  refine or_goto 48 E dJ5_append_c97b9_34 rfl ?_
  refine or_aload_n E rfl dJ5_append_c97b9_48 ?_
  refine or_iload_n E rfl dJ5_append_c97b9_49 ?_
  refine ot_putI E fl_105_79 fw_12_3 dJ5_append_c97b9_50 gS rfl ?_
  refine or_aload_n E rfl dJ5_append_c97b9_53 ?_
  refine or_xr E F (fun X' E' F' => or_aret E' F' (Or.inl ⟨_, rfl⟩) (Or.inr ⟨_, rfl⟩) dJ5_append_c97b9_54 (Nat.le_of_ble_eq_true rfl) (Nat.le_of_ble_eq_true rfl) ?_)
  rw [hK]
  have hbo := Ne.symm hob
  refine ⟨rfl, rfl, b1, ⟨gS, gb, ?_, ow_u_s _ _ _ _, _, gB, by omega, gm, sb_latPut gL (fun j hj => ?_) (fun i hi => ?_), fun j => ?_⟩, hK1.wr (fun a h0 hb9 => ?_)⟩
  · show ow_u I2 o 3 _ o 1 = 0
    rw [ow_u_k _ _ _ _ (by decide), e1 o 1 (Or.inl hob)]
    exact gc
  · show ow_u I2 o 3 _ b1 j = I1 b1 j
    rw [ow_u_a _ _ _ _ hbo, e1 b1 j (Or.inr (Or.inl hj))]
  · have h9 := e2 (sb_dg v - 1 - i) (by omega)
    rw [show n + sb_dg v - 1 - (sb_dg v - 1 - i) = n + i by omega] at h9
    refine ⟨by unfold sb_dec; omega, ?_⟩
    show ow_u I2 o 3 _ b1 (n + i) = _
    rw [ow_u_a _ _ _ _ hbo]
    exact h9
  · show fits .byte (.int (ow_u I2 o 3 _ b1 j)) = true
    rw [ow_u_a _ _ _ _ hbo]
    by_cases e : j < n ∨ n + sb_dg v ≤ j
    · rw [e1 b1 j (Or.inr e)]
      exact gf j
    · have h9 := e2 (n + sb_dg v - 1 - j) (by omega)
      rw [show n + sb_dg v - 1 - (n + sb_dg v - 1 - j) = j by omega] at h9
      rw [h9]
      exact sb_fitB _
  · funext j
    rw [ow_u_a _ _ _ _ h0, e1 a j (Or.inl hb9)]
set_option maxRecDepth 100000 in
set_option maxHeartbeats 400000 in
theorem cj5_setLength0 {Z : Nat → Nat} {S : Nat → Option ow_Sh} {I : ow_I} {V : Nat → Nat → Value} {z o b n : Nat} {t : Nat → Nat} (hX : sb_X o b n t (S, I, V, z)) (t2 : Nat → Nat) : ow_Cx Z yJ5_setLength_d00df cJ5_setLength_d00df 2 none 4 1 130 [.ref o, .int (nI 0)] (S, I, V, z) (sb_Q o b 0 t2 (S, I, V, z) none) := by
  obtain ⟨K, hK⟩ : ∃ K : Nat → Option Value → ow_H → Prop, K = (sb_Q o b 0 t2 (S, I, V, z) none) := ⟨_, rfl⟩
  rw [← hK]
  refine ow_Cx.of rfl (Nat.le_of_ble_eq_true rfl) (fun X E G F => ?_)
  have E : ow_E X RX105 cJ5_setLength_d00df 2 (ow_rm 4 1 130) := E
  have hX0 := hX
  obtain ⟨hS, hb, hc, hn, m, hB, hnm, hm, hL, hf⟩ := hX
  dsimp only at hS hb hc hn hB hL hf
  refine or_lv [(0, .ref o), (1, .int (nI 0))] rfl ?_
  refine or_iload_n E rfl dJ5_setLength_d00df_0 ?_
  refine or_if_ge 13 E dJ5_setLength_d00df_1 rfl (fun _ => ?_) (fun q => absurd (by decide) q)
  refine or_aload_n E rfl dJ5_setLength_d00df_13 ?_
  refine or_iload_n E rfl dJ5_setLength_d00df_14 ?_
  refine or_kD1 (cj5_ensure (Z := Z) hX0 (by decide)) E G F ld_105_100 dJ5_setLength_d00df_15 hS rfl sel_en (by decide) (by decide) ⟨by decide, by decide⟩ (Nat.le_of_ble_eq_true rfl) (fun r h1 q => ?_) (fun c' h1 hc' q => absurd q.1 (Nat.pos_iff_ne_zero.mp hc'))
  obtain ⟨-, rfl, b1, m1, hX1, hK1, hB1, hq1⟩ := q
  obtain ⟨S1, I1, V1, z1⟩ := h1
  have hX2 := hX1
  have hob := sb_ne hX1
  obtain ⟨gS, gb, gc, gn, m2, gB, gnm, gm, gL, gf⟩ := hX1
  dsimp only at gS gb gc gn gB gL gf hB1
  cases gB.symm.trans hB1
  refine or_aload_n E rfl dJ5_setLength_d00df_18 ?_
  refine ot_getI E fl_105_79 dJ5_setLength_d00df_19 gS rfl ?_
  rw [gn]
  refine or_iload_n E rfl dJ5_setLength_d00df_22 ?_
  refine or_icmp_geN 63 E dJ5_setLength_d00df_23 rfl (by omega) (by decide) (fun _ => ?_) (fun q => absurd (Nat.zero_le _) q)
  refine or_aload_n E rfl dJ5_setLength_d00df_63 ?_
  refine ot_getI E fl_105_79 dJ5_setLength_d00df_64 gS rfl ?_
  rw [gn]
  refine or_iload_n E rfl dJ5_setLength_d00df_67 ?_
  have fin : ∀ (V2 : Nat → Nat → Value) (lv : List (Nat × Value)), (∀ k, k ≠ 2 → V2 o k = V1 o k) → (∀ a, a ≠ o → V2 a = V1 a) → ow_g lv 0 = some (.ref o) → ow_g lv 1 = some (.int (nI 0)) → ow_W X (0 + 1) (0 + 130) (S1, I1, V2, z1) 76 lv [] := by
    intro V2 lv hv1 hv2 l0 l1
    refine or_aload_n E l0 dJ5_setLength_d00df_76 ?_
    refine or_iload_n E l1 dJ5_setLength_d00df_77 ?_
    refine ot_putI E fl_105_79 fw_12_3 dJ5_setLength_d00df_78 gS rfl ?_
    refine or_xr E F (fun X' E' F' => or_vret E' F' dJ5_setLength_d00df_81 (Nat.le_of_ble_eq_true rfl) (Nat.le_of_ble_eq_true rfl) ?_)
    rw [hK]
    refine ⟨rfl, rfl, b1, ⟨gS, (hv1 0 (by decide)).trans gb, ?_, ow_u_s _ _ _ _, _, gB, Nat.zero_le _, gm, fun j hj => absurd hj (Nat.not_lt_zero j), fun j => ?_⟩, hK1.tr ⟨Nat.le_refl _, Or.inl rfl, fun _ _ => rfl, fun a _ h0 hb9 => ⟨?_, hv2 a h0⟩⟩⟩
    · show ow_u I1 o 3 _ o 1 = 0
      rw [ow_u_k _ _ _ _ (by decide)]
      exact gc
    · show fits .byte (.int (ow_u I1 o 3 _ b1 j)) = true
      rw [ow_u_a _ _ _ _ (Ne.symm hob)]
      exact gf j
    · funext j
      exact ow_u_a _ _ _ _ h0 j
  refine or_icmp_leN 76 E dJ5_setLength_d00df_68 rfl (by omega) (by decide) (fun _ => fin V1 _ (fun _ _ => rfl) (fun _ _ => rfl) rfl rfl) (fun _ => ?_)
  refine or_aload_n E rfl dJ5_setLength_d00df_71 ?_
  refine or_iconst (v := nI 1) E rfl dJ5_setLength_d00df_72 ?_
  refine or_putV E fl_105_73 .boolean fwz_2 (by decide) (by decide) dJ5_setLength_d00df_73 gS rfl ?_
  exact fin _ _ (fun k hk2 => ow_u_k _ _ _ _ hk2 _) (fun a h0 => by funext j; exact ow_u_a _ _ _ _ h0 j) rfl rfl
set_option maxRecDepth 100000 in
set_option maxHeartbeats 400000 in
theorem cj5_charAt {Z : Nat → Nat} {S : Nat → Option ow_Sh} {I : ow_I} {V : Nat → Nat → Value} {z o b n i : Nat} {t : Nat → Nat} (hX : sb_X o b n t (S, I, V, z)) (hi : i < n) : ow_Cx Z yJ5_charAt_5068e cJ5_charAt_5068e 5 (some .char) 4 0 0 [.ref o, .int (nI i)] (S, I, V, z) (ox_s S V z 0 (some (.int (nI (t i)))) I) := by
  obtain ⟨K, hK⟩ : ∃ K : Nat → Option Value → ow_H → Prop, K = (ox_s S V z 0 (some (.int (nI (t i)))) I) := ⟨_, rfl⟩
  rw [← hK]
  refine ow_Cx.of rfl (Nat.le_of_ble_eq_true rfl) (fun X E G F => ?_)
  have E : ow_E X RX105 cJ5_charAt_5068e 5 (ow_rm 4 0 0) := E
  have hX0 := hX
  obtain ⟨hS, hb, hc, hn, m, hB, hnm, hm, hL, hf⟩ := hX
  dsimp only at hS hb hc hn hB hL hf
  refine or_lv [(0, .ref o), (1, .int (nI i))] rfl ?_
  obtain ⟨ht, hb2⟩ := hL i hi
  obtain ⟨c1, c2, -⟩ := sb_byte _ ht
  refine or_aload_n E rfl dJ5_charAt_5068e_0 ?_
  refine ot_getI E fl_105_22 dJ5_charAt_5068e_1 hS rfl ?_
  rw [hc]
  refine or_istore_n E dJ5_charAt_5068e_4 (by decide) ?_
  refine or_aload_n E rfl dJ5_charAt_5068e_5 ?_
  refine ot_getV E fl_105_15 dJ5_charAt_5068e_6 hS rfl ?_
  rw [hb]
  refine or_astore_n E dJ5_charAt_5068e_9 (by decide) ?_
  refine or_aload_n E rfl dJ5_charAt_5068e_10 ?_
  refine ot_getI E fl_105_79 dJ5_charAt_5068e_11 hS rfl ?_
  rw [hn]
  refine or_aload_n E rfl dJ5_charAt_5068e_14 ?_
  refine or_alen E dJ5_charAt_5068e_15 hB ?_
  refine or_iload_n E rfl dJ5_charAt_5068e_16 ?_
  refine or_ishr E dJ5_charAt_5068e_17 ?_
  refine or_top (sb_shr0 _) ?_
  refine or_mmin E lm_105_138 dJ5_charAt_5068e_18 (Nat.le_of_ble_eq_true rfl) ⟨by decide, by decide⟩ (Nat.le_of_ble_eq_true rfl) ?_
  refine or_top (y := nI n) ((nI_mn (by omega) (by omega)).trans (congrArg nI (Nat.min_eq_left hnm))) ?_
  refine or_istore E dJ5_charAt_5068e_21 (by decide) ?_
  refine or_iload_n E rfl dJ5_charAt_5068e_23 ?_
  refine or_iload E rfl dJ5_charAt_5068e_24 ?_
  refine or_fT2v (cj0_checkIndex_df160 (Z := Z) hi (by omega)) E G F lk_105_144 dJ5_charAt_5068e_26 (by decide) (by decide) ⟨by decide, by decide⟩ (Nat.le_of_ble_eq_true rfl) (fun _ => ?_) (fun h => absurd h (Nat.lt_irrefl 0))
  refine or_iload_n E rfl dJ5_charAt_5068e_29 ?_
  refine or_if_ne 42 E dJ5_charAt_5068e_30 rfl (fun q => absurd rfl q) (fun _ => ?_)
  refine or_aload_n E rfl dJ5_charAt_5068e_33 ?_
  refine or_iload_n E rfl dJ5_charAt_5068e_34 ?_
  refine ot_bald (j := i) E dJ5_charAt_5068e_35 hB rfl rfl (by omega) (by omega) ?_
  rw [hb2]
  refine or_sipush (v := nI 255) E rfl dJ5_charAt_5068e_36 ?_
  refine or_iand E dJ5_charAt_5068e_39 ?_
  refine or_top (y := nI (t i)) c1 ?_
  refine or_i2c (v := nI (t i)) E c2 dJ5_charAt_5068e_40 ?_
  refine or_xr E F (fun X' E' F' => or_nret E' F' dJ5_charAt_5068e_41 (Nat.le_of_ble_eq_true rfl) (Nat.le_of_ble_eq_true rfl) (nar_c ht) ?_)
  rw [hK]
  exact ⟨rfl, fun _ => ⟨rfl, rfl⟩, fun h => absurd h (Nat.lt_irrefl 0)⟩
theorem lw_104_50 : ow_lw RX104 50 yJ5_append_3fe6f cJ5_append_3fe6f 2 (some (.object "java/lang/AbstractStringBuilder")) 1 := ⟨ow_T_in 1034 (by decide +kernel) (by decide +kernel), ow_T_in 2252 (by decide +kernel) (by decide +kernel), ow_T_in 376 (by decide +kernel) (by decide +kernel), ow_T_in 1035 (by decide +kernel) (by decide +kernel), ow_T_in 12 (by decide +kernel) (by decide +kernel), ow_T_in 1036 (by decide +kernel) (by decide +kernel), by decide, by decide +kernel⟩
set_option maxRecDepth 100000 in
set_option maxHeartbeats 400000 in
theorem cj4_appendC {Z : Nat → Nat} {S : Nat → Option ow_Sh} {I : ow_I} {V : Nat → Nat → Value} {z o b n ch : Nat} {t : Nat → Nat} (hX : sb_X o b n t (S, I, V, z)) (hq : n + 1 ≤ 64) (hch : ch < 256) : ow_Cx Z yJ4_append_cf468 cJ4_append_cf468 2 (some (.object "java/lang/StringBuilder")) 5 1 130 [.ref o, .int (nI ch)] (S, I, V, z) (sb_Q o b (n + 1) (sb_cat t n (fun _ => ch)) (S, I, V, z) (some (.ref o))) := by
  obtain ⟨K, hK⟩ : ∃ K : Nat → Option Value → ow_H → Prop, K = (sb_Q o b (n + 1) (sb_cat t n (fun _ => ch)) (S, I, V, z) (some (.ref o))) := ⟨_, rfl⟩
  rw [← hK]
  refine ow_Cx.of rfl (Nat.le_of_ble_eq_true rfl) (fun X E G F => ?_)
  have E : ow_E X RX104 cJ4_append_cf468 2 (ow_rm 5 1 130) := E
  have hX0 := hX
  obtain ⟨hS, hb, hc, hn, m, hB, hnm, hm, hL, hf⟩ := hX
  dsimp only at hS hb hc hn hB hL hf
  refine or_lv [(0, .ref o), (1, .int (nI ch))] rfl ?_
  refine or_aload_n E rfl dJ4_append_cf468_0 ?_
  refine or_iload_n E rfl dJ4_append_cf468_1 ?_
  refine or_kW1 (cj5_appendC (Z := Z) hX0 hq hch) E G F lw_104_50 dJ4_append_cf468_2 hS rfl (by decide) (by decide) ⟨by decide, by decide⟩ (Nat.le_of_ble_eq_true rfl) (fun r h1 q => ?_) (fun c' h1 hc' q => absurd q.1 (Nat.pos_iff_ne_zero.mp hc'))
  have hq9 := q
  obtain ⟨-, rfl, -⟩ := q
  refine or_pop E rfl dJ4_append_cf468_5 ?_
  refine or_aload_n E rfl dJ4_append_cf468_6 ?_
  exact or_xr E F (fun X' E' F' => or_aret E' F' (Or.inl ⟨_, rfl⟩) (Or.inr ⟨_, rfl⟩) dJ4_append_cf468_7 (Nat.le_of_ble_eq_true rfl) (Nat.le_of_ble_eq_true rfl) (by rw [hK]; exact hq9))
theorem lw_104_53 : ow_lw RX104 53 yJ5_append_c97b9 cJ5_append_c97b9 4 (some (.object "java/lang/AbstractStringBuilder")) 1 := ⟨ow_T_in 827 (by decide +kernel) (by decide +kernel), ow_T_in 2250 (by decide +kernel) (by decide +kernel), ow_T_in 376 (by decide +kernel) (by decide +kernel), ow_T_in 828 (by decide +kernel) (by decide +kernel), ow_T_in 12 (by decide +kernel) (by decide +kernel), ow_T_in 829 (by decide +kernel) (by decide +kernel), by decide, by decide +kernel⟩
set_option maxRecDepth 100000 in
set_option maxHeartbeats 400000 in
theorem cj4_appendI {Z : Nat → Nat} {S : Nat → Option ow_Sh} {I : ow_I} {V : Nat → Nat → Value} {z o b n v : Nat} {t : Nat → Nat} (hX : sb_X o b n t (S, I, V, z)) (hv : v < 2 ^ 31) (hq : n + sb_dg v ≤ 64) : ow_Cx Z yJ4_append_bf812 cJ4_append_bf812 2 (some (.object "java/lang/StringBuilder")) 5 1 130 [.ref o, .int (nI v)] (S, I, V, z) (sb_Q o b (n + sb_dg v) (sb_cat t n (sb_dec v)) (S, I, V, z) (some (.ref o))) := by
  obtain ⟨K, hK⟩ : ∃ K : Nat → Option Value → ow_H → Prop, K = (sb_Q o b (n + sb_dg v) (sb_cat t n (sb_dec v)) (S, I, V, z) (some (.ref o))) := ⟨_, rfl⟩
  rw [← hK]
  refine ow_Cx.of rfl (Nat.le_of_ble_eq_true rfl) (fun X E G F => ?_)
  have E : ow_E X RX104 cJ4_append_bf812 2 (ow_rm 5 1 130) := E
  have hX0 := hX
  obtain ⟨hS, hb, hc, hn, m, hB, hnm, hm, hL, hf⟩ := hX
  dsimp only at hS hb hc hn hB hL hf
  refine or_lv [(0, .ref o), (1, .int (nI v))] rfl ?_
  refine or_aload_n E rfl dJ4_append_bf812_0 ?_
  refine or_iload_n E rfl dJ4_append_bf812_1 ?_
  refine or_kW1 (cj5_appendI (Z := Z) hX0 hv hq) E G F lw_104_53 dJ4_append_bf812_2 hS rfl (by decide) (by decide) ⟨by decide, by decide⟩ (Nat.le_of_ble_eq_true rfl) (fun r h1 q => ?_) (fun c' h1 hc' q => absurd q.1 (Nat.pos_iff_ne_zero.mp hc'))
  have hq9 := q
  obtain ⟨-, rfl, -⟩ := q
  refine or_pop E rfl dJ4_append_bf812_5 ?_
  refine or_aload_n E rfl dJ4_append_bf812_6 ?_
  exact or_xr E F (fun X' E' F' => or_aret E' F' (Or.inl ⟨_, rfl⟩) (Or.inr ⟨_, rfl⟩) dJ4_append_bf812_7 (Nat.le_of_ble_eq_true rfl) (Nat.le_of_ble_eq_true rfl) (by rw [hK]; exact hq9))
theorem lw_104_333 : ow_lw RX104 333 yJ5_setLength_d00df cJ5_setLength_d00df 2 none 1 := ⟨ow_T_in 715 (by decide +kernel) (by decide +kernel), ow_T_in 2242 (by decide +kernel) (by decide +kernel), ow_T_in 376 (by decide +kernel) (by decide +kernel), ow_T_in 716 (by decide +kernel) (by decide +kernel), ow_T_in 12 (by decide +kernel) (by decide +kernel), ow_T_in 717 (by decide +kernel) (by decide +kernel), by decide, by decide +kernel⟩
set_option maxRecDepth 100000 in
set_option maxHeartbeats 400000 in
theorem cj4_setLength0 {Z : Nat → Nat} {S : Nat → Option ow_Sh} {I : ow_I} {V : Nat → Nat → Value} {z o b n : Nat} {t : Nat → Nat} (hX : sb_X o b n t (S, I, V, z)) (t2 : Nat → Nat) : ow_Cx Z yJ4_setLength_d00df cJ4_setLength_d00df 2 none 5 1 130 [.ref o, .int (nI 0)] (S, I, V, z) (sb_Q o b 0 t2 (S, I, V, z) none) := by
  obtain ⟨K, hK⟩ : ∃ K : Nat → Option Value → ow_H → Prop, K = (sb_Q o b 0 t2 (S, I, V, z) none) := ⟨_, rfl⟩
  rw [← hK]
  refine ow_Cx.of rfl (Nat.le_of_ble_eq_true rfl) (fun X E G F => ?_)
  have E : ow_E X RX104 cJ4_setLength_d00df 2 (ow_rm 5 1 130) := E
  have hX0 := hX
  obtain ⟨hS, hb, hc, hn, m, hB, hnm, hm, hL, hf⟩ := hX
  dsimp only at hS hb hc hn hB hL hf
  refine or_lv [(0, .ref o), (1, .int (nI 0))] rfl ?_
  refine or_aload_n E rfl dJ4_setLength_d00df_0 ?_
  refine or_iload_n E rfl dJ4_setLength_d00df_1 ?_
  refine or_kW1 (cj5_setLength0 (Z := Z) hX0 t2) E G F lw_104_333 dJ4_setLength_d00df_2 hS rfl (by decide) (by decide) ⟨by decide, by decide⟩ (Nat.le_of_ble_eq_true rfl) (fun r h1 q => ?_) (fun c' h1 hc' q => absurd q.1 (Nat.pos_iff_ne_zero.mp hc'))
  have hq9 := q
  obtain ⟨-, rfl, -⟩ := q
  exact or_xr E F (fun X' E' F' => or_vret E' F' dJ4_setLength_d00df_5 (Nat.le_of_ble_eq_true rfl) (Nat.le_of_ble_eq_true rfl) (by rw [hK]; exact hq9))
theorem lw_104_329 : ow_lw RX104 329 yJ5_charAt_5068e cJ5_charAt_5068e 5 (some .char) 1 := ⟨ow_T_in 1053 (by decide +kernel) (by decide +kernel), ow_T_in 2254 (by decide +kernel) (by decide +kernel), ow_T_in 376 (by decide +kernel) (by decide +kernel), ow_T_in 1054 (by decide +kernel) (by decide +kernel), ow_T_in 12 (by decide +kernel) (by decide +kernel), ow_T_in 1055 (by decide +kernel) (by decide +kernel), by decide, by decide +kernel⟩
set_option maxRecDepth 100000 in
set_option maxHeartbeats 400000 in
theorem cj4_charAt {Z : Nat → Nat} {S : Nat → Option ow_Sh} {I : ow_I} {V : Nat → Nat → Value} {z o b n i : Nat} {t : Nat → Nat} (hX : sb_X o b n t (S, I, V, z)) (hi : i < n) : ow_Cx Z yJ4_charAt_5068e cJ4_charAt_5068e 2 (some .char) 5 0 0 [.ref o, .int (nI i)] (S, I, V, z) (ox_s S V z 0 (some (.int (nI (t i)))) I) := by
  obtain ⟨K, hK⟩ : ∃ K : Nat → Option Value → ow_H → Prop, K = (ox_s S V z 0 (some (.int (nI (t i)))) I) := ⟨_, rfl⟩
  rw [← hK]
  refine ow_Cx.of rfl (Nat.le_of_ble_eq_true rfl) (fun X E G F => ?_)
  have E : ow_E X RX104 cJ4_charAt_5068e 2 (ow_rm 5 0 0) := E
  have hX0 := hX
  obtain ⟨hS, hb, hc, hn, m, hB, hnm, hm, hL, hf⟩ := hX
  dsimp only at hS hb hc hn hB hL hf
  refine or_lv [(0, .ref o), (1, .int (nI i))] rfl ?_
  refine or_aload_n E rfl dJ4_charAt_5068e_0 ?_
  refine or_iload_n E rfl dJ4_charAt_5068e_1 ?_
  refine or_kW1 (cj5_charAt (Z := Z) hX0 hi) E G F lw_104_329 dJ4_charAt_5068e_2 hS rfl (by decide) (by decide) ⟨by decide, by decide⟩ (Nat.le_of_ble_eq_true rfl) (fun r h1 q => ?_) (fun c' h1 hc' q => absurd q.1 (Nat.pos_iff_ne_zero.mp hc'))
  obtain ⟨rfl, rfl⟩ := q.2.1 rfl
  refine or_xr E F (fun X' E' F' => or_nret E' F' dJ4_charAt_5068e_5 (Nat.le_of_ble_eq_true rfl) (Nat.le_of_ble_eq_true rfl) (nar_c (hL i hi).1) ?_)
  rw [hK]
  exact ⟨rfl, fun _ => ⟨rfl, rfl⟩, fun h => absurd h (Nat.lt_irrefl 0)⟩
theorem lw_104_343 : ow_lw RX104 343 yJ5_length_8abf5 cJ5_length_8abf5 1 (some .int) 0 := ⟨ow_T_in 872 (by decide +kernel) (by decide +kernel), ow_T_in 868 (by decide +kernel) (by decide +kernel), ow_T_in 376 (by decide +kernel) (by decide +kernel), ow_T_in 867 (by decide +kernel) (by decide +kernel), ow_T_in 12 (by decide +kernel) (by decide +kernel), ow_T_in 873 (by decide +kernel) (by decide +kernel), by decide, by decide +kernel⟩
set_option maxRecDepth 100000 in
set_option maxHeartbeats 400000 in
theorem cj4_length {Z : Nat → Nat} {S : Nat → Option ow_Sh} {I : ow_I} {V : Nat → Nat → Value} {z o b n : Nat} {t : Nat → Nat} (hX : sb_X o b n t (S, I, V, z)) : ow_Cx Z yJ4_length_8abf5 cJ4_length_8abf5 1 (some .int) 2 0 0 [.ref o] (S, I, V, z) (ox_s S V z 0 (some (.int (nI n))) I) := by
  obtain ⟨K, hK⟩ : ∃ K : Nat → Option Value → ow_H → Prop, K = (ox_s S V z 0 (some (.int (nI n))) I) := ⟨_, rfl⟩
  rw [← hK]
  refine ow_Cx.of rfl (Nat.le_of_ble_eq_true rfl) (fun X E G F => ?_)
  have E : ow_E X RX104 cJ4_length_8abf5 1 (ow_rm 2 0 0) := E
  have hX0 := hX
  obtain ⟨hS, hb, hc, hn, m, hB, hnm, hm, hL, hf⟩ := hX
  dsimp only at hS hb hc hn hB hL hf
  refine or_lv [(0, .ref o)] rfl ?_
  refine or_aload_n E rfl dJ4_length_8abf5_0 ?_
  refine or_kW0 (cj5_length_8abf5 (Z := Z) hS) E G F lw_104_343 dJ4_length_8abf5_1 hS rfl (by decide) (by decide) ⟨by decide, by decide⟩ (Nat.le_of_ble_eq_true rfl) (fun r h1 q => ?_) (fun c' h1 hc' q => absurd q.1 (Nat.pos_iff_ne_zero.mp hc'))
  obtain ⟨rfl, rfl⟩ := q.2.1 rfl
  refine or_top (y := nI n) hn ?_
  refine or_xr E F (fun X' E' F' => or_iret E' F' dJ4_length_8abf5_4 (Nat.le_of_ble_eq_true rfl) (Nat.le_of_ble_eq_true rfl) ?_)
  rw [hK]
  exact ⟨rfl, fun _ => ⟨rfl, rfl⟩, fun h => absurd h (Nat.lt_irrefl 0)⟩
