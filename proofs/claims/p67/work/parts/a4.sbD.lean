theorem fw_12_3 : ∃ r : vw_C, ow_cl[12]? = some r ∧ (r.2.1 3).2.2.2 = false ∧ parseFieldDescriptor (r.2.1 3).2.2.1 = some .int := ⟨_, rfl, rfl, by decide +kernel⟩
theorem lk_105_245 : ow_lt RX105 245 yJ6_stringSize_0f7a4 cJ6_stringSize_0f7a4 4 (some .int) 1 := ⟨ow_T_in 684 (by decide +kernel) (by decide +kernel), ow_T_in 685 (by decide +kernel) (by decide +kernel), ow_T_in 23 (by decide +kernel) (by decide +kernel), ow_T_in 686 (by decide +kernel) (by decide +kernel), ⟨by decide +kernel, by decide +kernel, by decide +kernel⟩⟩
theorem lk_105_248 : ow_lt RX105 248 yJ6_getChars_ba4f3 cJ6_getChars_ba4f3 7 (some .int) 3 := ⟨ow_T_in 687 (by decide +kernel) (by decide +kernel), ow_T_in 688 (by decide +kernel) (by decide +kernel), ow_T_in 23 (by decide +kernel) (by decide +kernel), ow_T_in 689 (by decide +kernel) (by decide +kernel), ⟨by decide +kernel, by decide +kernel, by decide +kernel⟩⟩
theorem fwz_2 : ∃ r : vw_C, ow_cl[12]? = some r ∧ (r.2.1 2).2.2.2 = false ∧ parseFieldDescriptor (r.2.1 2).2.2.1 = some .boolean := ⟨_, rfl, rfl, by decide +kernel⟩
def sb_Q (o b n : Nat) (t : Nat → Nat) (h : ow_H) (r0 : Option Value) : Nat → Option Value → ow_H → Prop := fun c r h1 => c = 0 ∧ r = r0 ∧ ∃ b1, sb_X o b1 n t h1 ∧ sb_K o b b1 h h1
theorem i8_i8 (x : Int32) : x.toInt8.toInt32.toInt8.toInt32 = x.toInt8.toInt32 := by simp
set_option maxRecDepth 100000 in
set_option maxHeartbeats 400000 in
theorem cj5_appendI {Z : Nat → Nat} {S : Nat → Option ow_Sh} {I : ow_I} {V : Nat → Nat → Value} {z o b n v : Nat} {t : Nat → Nat} (hX : sb_X o b n t (S, I, V, z)) (hv : v < 2 ^ 31) (hq : n + sb_dg v ≤ 300) : ow_Cx Z yJ5_append_c97b9 cJ5_append_c97b9 4 (some (.object "java/lang/AbstractStringBuilder")) 4 1 602 [.ref o, .int (nI v)] (S, I, V, z) (sb_Q o b (n + sb_dg v) (sb_cat t n (sb_dec v)) (S, I, V, z) (some (.ref o))) := by
  obtain ⟨K, hK⟩ : ∃ K : Nat → Option Value → ow_H → Prop, K = (sb_Q o b (n + sb_dg v) (sb_cat t n (sb_dec v)) (S, I, V, z) (some (.ref o))) := ⟨_, rfl⟩
  rw [← hK]
  refine ow_Cx.of rfl (Nat.le_of_ble_eq_true rfl) (fun X E G F => ?_)
  have E : ow_E X RX105 cJ5_append_c97b9 4 (ow_rm 4 1 602) := E
  have hX0 := hX
  obtain ⟨hS, hb, hc, hn, m, hB, hnm, hm, hL, hf⟩ := hX
  dsimp only at hS hb hc hn hB hL hf
  refine or_lv [(0, .ref o), (1, .int (nI v))] rfl ?_
  refine or_aload_n E rfl dJ5_append_c97b9_0 ?_
  refine ot_getI E fl_105_79 dJ5_append_c97b9_1 hS rfl ?_
  rw [hn]
  refine or_istore_n E dJ5_append_c97b9_4 (by decide) ?_
  refine or_iload_n E rfl dJ5_append_c97b9_5 ?_
  refine or_iload_n E rfl dJ5_append_c97b9_6 ?_
  refine or_fT1r (cj6_stringSize_0f7a4 (Z := Z) hv) E G F lk_105_245 dJ5_append_c97b9_7 (by decide) (by decide) ⟨by decide, by decide⟩ (Nat.le_of_ble_eq_true rfl) (fun _ => ?_) (fun h => absurd h (Nat.lt_irrefl 0))
  refine or_top (y := nI (sb_dg v)) (congrArg nI (j6_size hv)) ?_
  refine or_iaddN E dJ5_append_c97b9_10 ?_
  refine or_istore_n E dJ5_append_c97b9_11 (by decide) ?_
  refine or_aload_n E rfl dJ5_append_c97b9_12 ?_
  refine or_iload_n E rfl dJ5_append_c97b9_13 ?_
  refine or_kD1 (cj5_ensure (Z := Z) hX0 hq) E G F ld_105_100 dJ5_append_c97b9_14 hS rfl sel_en (by decide) (by decide) ⟨by decide, by decide⟩ (Nat.le_of_ble_eq_true rfl) (fun r h1 q => ?_) (fun c' h1 hc' q => absurd q.1 (Nat.pos_iff_ne_zero.mp hc'))
  obtain ⟨-, rfl, b1, m1, hX1, hK1, hB1, hq1⟩ := q
  obtain ⟨S1, I1, V1, z1⟩ := h1
  have hX2 := hX1
  have hob := sb_ne hX1
  obtain ⟨gS, gb, gc, gn, m2, gB, gnm, gm, gL, gf⟩ := hX1
  dsimp only at gS gb gc gn gB gL gf hB1
  cases gB.symm.trans hB1
  refine or_aload_n E rfl dJ5_append_c97b9_17 ?_
  refine or_kD0 (cj5_isLatin1_aae02 (Z := Z) gS gc) E G F ld_105_83 dJ5_append_c97b9_18 gS rfl sel_l1 (by decide) (by decide) ⟨by decide, by decide⟩ (Nat.le_of_ble_eq_true rfl) (fun r h1 q2 => ?_) (fun c' h1 hc' q => absurd q.1 (Nat.pos_iff_ne_zero.mp hc'))
  obtain ⟨rfl, rfl⟩ := q2.2.1 rfl
  refine or_if_eqZ (b := true) 37 E dJ5_append_c97b9_21 rfl (fun q => absurd q (by decide)) (fun _ => ?_)
  refine or_iload_n E rfl dJ5_append_c97b9_24 ?_
  refine or_iload_n E rfl dJ5_append_c97b9_25 ?_
  refine or_aload_n E rfl dJ5_append_c97b9_26 ?_
  refine ot_getV E fl_105_15 dJ5_append_c97b9_27 gS rfl ?_
  rw [gb]
  refine or_kT3 (cj6_getChars (Z := Z) hv rfl hq1 (by omega) gB) E G F lk_105_248 dJ5_append_c97b9_30 (by decide) (by decide) ⟨by decide, by decide⟩ (Nat.le_of_ble_eq_true rfl) (fun r h1 q => ?_) (fun c' h1 hc' q => absurd q.1 (Nat.pos_iff_ne_zero.mp hc'))
  obtain ⟨-, rfl, I2, rfl, e1, e2⟩ := q
  refine or_pop E rfl dJ5_append_c97b9_33 ?_
  refine or_goto 48 E dJ5_append_c97b9_34 rfl ?_
  refine or_aload_n E rfl dJ5_append_c97b9_48 ?_
  refine or_iload_n E rfl dJ5_append_c97b9_49 ?_
  refine ot_putI E fl_105_79 fw_12_3 dJ5_append_c97b9_50 gS rfl ?_
  refine or_aload_n E rfl dJ5_append_c97b9_53 ?_
  refine or_xr E F (fun X' E' F' => or_aret E' F' (Or.inl ⟨_, rfl⟩) (Or.inr ⟨_, rfl⟩) dJ5_append_c97b9_54 (Nat.le_of_ble_eq_true rfl) (Nat.le_of_ble_eq_true rfl) ?_)
  rw [hK]
  have hbo := Ne.symm hob
  refine ⟨rfl, rfl, b1, ⟨gS, gb, ?_, ow_u_s _ _ _ _, _, gB, by omega, gm, sb_latPut gL (fun j hj => ?_) (fun i hi => ?_), fun j => ?_⟩, hK1.wr (fun a h0 hb9 => ?_)⟩
  · show ow_u I2 o 3 _ o 1 = 0
    rw [ow_u_k _ _ _ _ (by decide), e1 o 1 (Or.inl hob)]
    exact gc
  · show ow_u I2 o 3 _ b1 j = I1 b1 j
    rw [ow_u_a _ _ _ _ hbo, e1 b1 j (Or.inr (Or.inl hj))]
  · have h9 := e2 (sb_dg v - 1 - i) (by omega)
    rw [show n + sb_dg v - 1 - (sb_dg v - 1 - i) = n + i by omega] at h9
    refine ⟨by unfold sb_dec; omega, ?_⟩
    show ow_u I2 o 3 _ b1 (n + i) = _
    rw [ow_u_a _ _ _ _ hbo]
    exact h9
  · show fits .byte (.int (ow_u I2 o 3 _ b1 j)) = true
    rw [ow_u_a _ _ _ _ hbo]
    by_cases e : j < n ∨ n + sb_dg v ≤ j
    · rw [e1 b1 j (Or.inr e)]
      exact gf j
    · have h9 := e2 (n + sb_dg v - 1 - j) (by omega)
      rw [show n + sb_dg v - 1 - (n + sb_dg v - 1 - j) = j by omega] at h9
      rw [h9]
      exact sb_fitB _
  · funext j
    rw [ow_u_a _ _ _ _ h0, e1 a j (Or.inl hb9)]
theorem lw_104_53 : ow_lw RX104 53 yJ5_append_c97b9 cJ5_append_c97b9 4 (some (.object "java/lang/AbstractStringBuilder")) 1 := ⟨ow_T_in 681 (by decide +kernel) (by decide +kernel), ow_T_in 1307 (by decide +kernel) (by decide +kernel), ow_T_in 357 (by decide +kernel) (by decide +kernel), ow_T_in 682 (by decide +kernel) (by decide +kernel), ow_T_in 12 (by decide +kernel) (by decide +kernel), ow_T_in 683 (by decide +kernel) (by decide +kernel), by decide, by decide +kernel⟩
set_option maxRecDepth 100000 in
set_option maxHeartbeats 400000 in
theorem cj4_appendI {Z : Nat → Nat} {S : Nat → Option ow_Sh} {I : ow_I} {V : Nat → Nat → Value} {z o b n v : Nat} {t : Nat → Nat} (hX : sb_X o b n t (S, I, V, z)) (hv : v < 2 ^ 31) (hq : n + sb_dg v ≤ 300) : ow_Cx Z yJ4_append_bf812 cJ4_append_bf812 2 (some (.object "java/lang/StringBuilder")) 5 1 602 [.ref o, .int (nI v)] (S, I, V, z) (sb_Q o b (n + sb_dg v) (sb_cat t n (sb_dec v)) (S, I, V, z) (some (.ref o))) := by
  obtain ⟨K, hK⟩ : ∃ K : Nat → Option Value → ow_H → Prop, K = (sb_Q o b (n + sb_dg v) (sb_cat t n (sb_dec v)) (S, I, V, z) (some (.ref o))) := ⟨_, rfl⟩
  rw [← hK]
  refine ow_Cx.of rfl (Nat.le_of_ble_eq_true rfl) (fun X E G F => ?_)
  have E : ow_E X RX104 cJ4_append_bf812 2 (ow_rm 5 1 602) := E
  have hX0 := hX
  obtain ⟨hS, hb, hc, hn, m, hB, hnm, hm, hL, hf⟩ := hX
  dsimp only at hS hb hc hn hB hL hf
  refine or_lv [(0, .ref o), (1, .int (nI v))] rfl ?_
  refine or_aload_n E rfl dJ4_append_bf812_0 ?_
  refine or_iload_n E rfl dJ4_append_bf812_1 ?_
  refine or_kW1 (cj5_appendI (Z := Z) hX0 hv hq) E G F lw_104_53 dJ4_append_bf812_2 hS rfl (by decide) (by decide) ⟨by decide, by decide⟩ (Nat.le_of_ble_eq_true rfl) (fun r h1 q => ?_) (fun c' h1 hc' q => absurd q.1 (Nat.pos_iff_ne_zero.mp hc'))
  have hq9 := q
  obtain ⟨-, rfl, -⟩ := q
  refine or_pop E rfl dJ4_append_bf812_5 ?_
  refine or_aload_n E rfl dJ4_append_bf812_6 ?_
  exact or_xr E F (fun X' E' F' => or_aret E' F' (Or.inl ⟨_, rfl⟩) (Or.inr ⟨_, rfl⟩) dJ4_append_bf812_7 (Nat.le_of_ble_eq_true rfl) (Nat.le_of_ble_eq_true rfl) (by rw [hK]; exact hq9))
theorem lw_104_343 : ow_lw RX104 343 yJ5_length_8abf5 cJ5_length_8abf5 1 (some .int) 0 := ⟨ow_T_in 728 (by decide +kernel) (by decide +kernel), ow_T_in 724 (by decide +kernel) (by decide +kernel), ow_T_in 357 (by decide +kernel) (by decide +kernel), ow_T_in 723 (by decide +kernel) (by decide +kernel), ow_T_in 12 (by decide +kernel) (by decide +kernel), ow_T_in 729 (by decide +kernel) (by decide +kernel), by decide, by decide +kernel⟩
set_option maxRecDepth 100000 in
set_option maxHeartbeats 400000 in
theorem cj4_length {Z : Nat → Nat} {S : Nat → Option ow_Sh} {I : ow_I} {V : Nat → Nat → Value} {z o b n : Nat} {t : Nat → Nat} (hX : sb_X o b n t (S, I, V, z)) : ow_Cx Z yJ4_length_8abf5 cJ4_length_8abf5 1 (some .int) 2 0 0 [.ref o] (S, I, V, z) (ox_s S V z 0 (some (.int (nI n))) I) := by
  obtain ⟨K, hK⟩ : ∃ K : Nat → Option Value → ow_H → Prop, K = (ox_s S V z 0 (some (.int (nI n))) I) := ⟨_, rfl⟩
  rw [← hK]
  refine ow_Cx.of rfl (Nat.le_of_ble_eq_true rfl) (fun X E G F => ?_)
  have E : ow_E X RX104 cJ4_length_8abf5 1 (ow_rm 2 0 0) := E
  have hX0 := hX
  obtain ⟨hS, hb, hc, hn, m, hB, hnm, hm, hL, hf⟩ := hX
  dsimp only at hS hb hc hn hB hL hf
  refine or_lv [(0, .ref o)] rfl ?_
  refine or_aload_n E rfl dJ4_length_8abf5_0 ?_
  refine or_kW0 (cj5_length_8abf5 (Z := Z) hS) E G F lw_104_343 dJ4_length_8abf5_1 hS rfl (by decide) (by decide) ⟨by decide, by decide⟩ (Nat.le_of_ble_eq_true rfl) (fun r h1 q => ?_) (fun c' h1 hc' q => absurd q.1 (Nat.pos_iff_ne_zero.mp hc'))
  obtain ⟨rfl, rfl⟩ := q.2.1 rfl
  refine or_top (y := nI n) hn ?_
  refine or_xr E F (fun X' E' F' => or_iret E' F' dJ4_length_8abf5_4 (Nat.le_of_ble_eq_true rfl) (Nat.le_of_ble_eq_true rfl) ?_)
  rw [hK]
  exact ⟨rfl, fun _ => ⟨rfl, rfl⟩, fun h => absurd h (Nat.lt_irrefl 0)⟩
