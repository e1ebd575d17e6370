theorem lk_100_54 : ow_lt RX100 54 yJ7_copyOfRange_39247 cJ7_copyOfRange_39247 3 (some (.array .byte)) 3 := ⟨ow_T_in 731 (by decide +kernel) (by decide +kernel), ow_T_in 732 (by decide +kernel) (by decide +kernel), ow_T_in 20 (by decide +kernel) (by decide +kernel), ow_T_in 733 (by decide +kernel) (by decide +kernel), ⟨by decide +kernel, by decide +kernel, by decide +kernel⟩⟩
theorem ld_100_552 : ow_ld RX100 552 yJ5_getValue_6d5f1 cJ5_getValue_6d5f1 1 (some (.array .byte)) 0 := ⟨ow_T_in 717 (by decide +kernel) (by decide +kernel), ow_T_in 719 (by decide +kernel) (by decide +kernel), ow_T_in 718 (by decide +kernel) (by decide +kernel), ow_T_in 12 (by decide +kernel) (by decide +kernel), ow_T_in 721 (by decide +kernel) (by decide +kernel), ⟨by decide, by decide, by decide +kernel⟩⟩
theorem ld_100_1047 : ow_ld RX100 1047 yJ5_isLatin1_aae02 cJ5_isLatin1_aae02 1 (some .boolean) 0 := ⟨ow_T_in 730 (by decide +kernel) (by decide +kernel), ow_T_in 624 (by decide +kernel) (by decide +kernel), ow_T_in 623 (by decide +kernel) (by decide +kernel), ow_T_in 12 (by decide +kernel) (by decide +kernel), ow_T_in 626 (by decide +kernel) (by decide +kernel), ⟨by decide, by decide, by decide +kernel⟩⟩
theorem sel_gv : ow_sel RJ4 yJ5_getValue_6d5f1 := fun s args hts => hts _ (ow_T_in 720 (by decide +kernel) (by decide +kernel))
theorem lov_100_549 : ow_lov RX100 549 yJ5_length_8abf5 RJ4 yJ4_length_8abf5 cJ4_length_8abf5 1 (some .int) 0 := ⟨ow_T_in 722 (by decide +kernel) (by decide +kernel), ow_T_in 724 (by decide +kernel) (by decide +kernel), ow_T_in 723 (by decide +kernel) (by decide +kernel), ⟨_, _, _, ow_T_in (w := Cond.code yJ5_length_8abf5 cJ5_length_8abf5 1 (some .int)) 729 (by decide +kernel) (by decide +kernel)⟩, ow_T_in 725 (by decide +kernel) (by decide +kernel), ow_T_in 726 (by decide +kernel) (by decide +kernel), ow_T_in 13 (by decide +kernel) (by decide +kernel), ow_T_in 727 (by decide +kernel) (by decide +kernel), ⟨by decide, by decide, by decide +kernel⟩⟩
theorem lo_100_1 : ow_lo RX100 1 := ⟨ow_T_in 716 (by decide +kernel) (by decide +kernel), ow_T_in 36 (by decide +kernel) (by decide +kernel), ow_T_in 37 (by decide +kernel) (by decide +kernel)⟩
theorem lz_100_489 : ow_lz RX100 489 yJ0_init_db425 cJ0_init_db425 5 2 := ⟨ow_T_in 713 (by decide +kernel) (by decide +kernel), ow_T_in 714 (by decide +kernel) (by decide +kernel), ow_T_in 14 (by decide +kernel) (by decide +kernel), ow_T_in 715 (by decide +kernel) (by decide +kernel), rfl, ⟨by decide, by decide, by decide +kernel⟩⟩
theorem lz_104_137 : ow_lz RX104 137 yJ0_init_81219 cJ0_init_81219 2 1 := ⟨ow_T_in 710 (by decide +kernel) (by decide +kernel), ow_T_in 711 (by decide +kernel) (by decide +kernel), ow_T_in 14 (by decide +kernel) (by decide +kernel), ow_T_in 712 (by decide +kernel) (by decide +kernel), rfl, ⟨by decide, by decide, by decide +kernel⟩⟩
def raw11 : Nat → Option (Option Value) := fun k => match k with
  | 0 => some none
  | 1 => some none
  | _ => none
theorem df_11 : ∀ k, k < 4 → defaultValue (tyJ0 k) = ow_v (raw11 k) 0 (if k = 0 then .null else .int 0) := fun k hk => match k, hk with | 0, _ => rfl | 1, _ => rfl | 2, _ => rfl | 3, _ => rfl | k + 4, h => absurd h (by omega)
theorem ff_11_0 : ∃ r : vw_C, ow_cl[11]? = some r ∧ (r.2.1 0).2.2.2 = true ∧ (r.2.1 0).1 = RX100 ∧ parseFieldDescriptor (r.2.1 0).2.2.1 = some (.array .byte) := ⟨_, rfl, rfl, by decide +kernel, by decide +kernel⟩
theorem ff_11_1 : ∃ r : vw_C, ow_cl[11]? = some r ∧ (r.2.1 1).2.2.2 = true ∧ (r.2.1 1).1 = RX100 ∧ parseFieldDescriptor (r.2.1 1).2.2.1 = some .byte := ⟨_, rfl, rfl, by decide +kernel, by decide +kernel⟩
/-- the string made at a out of the builder's text: all else as it was -/
def ts_I (I : ow_I) (a b n : Nat) : ow_I := ow_cp (ow_nI I (a + 1)) b (a + 1) n
def ts_S (S : Nat → Option ow_Sh) (a n : Nat) : Nat → Option ow_Sh := ow_nS (ow_nS S (a + 1) (.inr (.byte, n, ow_n))) a (.inl (11, st_kf a))
def ts_V (V : Nat → Nat → Value) (a : Nat) : Nat → Nat → Value := ow_u (ow_u V a 1 (.int 0)) a 0 (.ref (a + 1))
set_option maxRecDepth 100000 in
set_option maxHeartbeats 400000 in
theorem cj0_initA {Z : Nat → Nat} {S : Nat → Option ow_Sh} {I : ow_I} {V : Nat → Nat → Value} {a o b n : Nat} {t : Nat → Nat} (hA : S a = some (.inl (11, raw11))) (hI : I a 1 = 0) (hX : sb_X o b n t (S, I, V, a + 1)) (h3 : n ≤ 300) : ow_Cx Z yJ0_init_db425 cJ0_init_db425 5 none 4 1 300 [.ref a, .ref o, .null] (S, I, V, a + 1) (ox_s (ts_S S a n) (ts_V V a) (a + 2) 0 none (ts_I I a b n)) := by
  refine ow_Cx.off rfl (Nat.le_of_ble_eq_true rfl) (fun X K E G F hk => ?_)
  have E : ow_E X RX100 cJ0_init_db425 5 (ow_rm 4 1 300) := E
  have hX0 := hX
  obtain ⟨hS, hb, hc, hn, m, hB, hnm, hm, hL, hf⟩ := hX
  dsimp only at hS hb hc hn hB hL hf
  have hao : a ≠ o := fun e => by rw [e] at hA; unfold sb_S at hS; rw [hS] at hA; cases hA
  have hab : a ≠ b := fun e => by rw [e, hB] at hA; cases hA
  refine or_lv [(0, .ref a), (1, .ref o)] rfl ?_
  refine or_ltz (fun hlt => ?_)
  have hoz : o ≠ a + 1 := by
    have := hlt o _ hS
    omega
  have hbz : b ≠ a + 1 := by
    have := hlt b _ hB
    omega
  have hV1 : ow_u V a 1 (.int 0) o = V o := by funext j; exact ow_u_a _ _ _ _ (Ne.symm hao) j
  have hA1 : ow_nS S (a + 1) (.inr (.byte, n, ow_n)) a = some (.inl (11, raw11)) := (ow_nS_o S _ (by omega)).trans hA
  refine or_aload_n E rfl dJ0_init_db425_0 ?_
  refine or_oinit E lo_100_1 dJ0_init_db425_1 (by decide) (Nat.le_of_ble_eq_true rfl) ?_
  refine or_aload_n E rfl dJ0_init_db425_4 ?_
  refine or_kD0 (cj5_getValue (Z := Z) hS hb) E G F ld_100_552 dJ0_init_db425_5 hS rfl sel_gv (by decide) (by decide) ⟨by omega, by omega⟩ (Nat.le_of_ble_eq_true rfl) (fun r h1 q => ?_) (fun c' h1 hc' q => absurd q.1 (Nat.pos_iff_ne_zero.mp hc'))
  obtain ⟨rfl, rfl⟩ := q.2.1 rfl
  refine or_astore_n E dJ0_init_db425_8 (by decide) ?_
  refine or_aload_n E rfl dJ0_init_db425_9 ?_
  refine or_kO0 (cj4_length (Z := Z) hX0) E G F lov_100_549 dJ0_init_db425_10 hS rfl (by decide) (by decide) ⟨by omega, by omega⟩ (Nat.le_of_ble_eq_true rfl) (fun r h1 q => ?_) (fun c' h1 hc' q => absurd q.1 (Nat.pos_iff_ne_zero.mp hc'))
  obtain ⟨rfl, rfl⟩ := q.2.1 rfl
  refine or_istore E dJ0_init_db425_13 (by decide) ?_
  refine or_aload_n E rfl dJ0_init_db425_15 ?_
  refine or_kD0 (cj5_isLatin1_aae02 (Z := Z) hS hc) E G F ld_100_1047 dJ0_init_db425_16 hS rfl sel_l1 (by decide) (by decide) ⟨by omega, by omega⟩ (Nat.le_of_ble_eq_true rfl) (fun r h1 q => ?_) (fun c' h1 hc' q => absurd q.1 (Nat.pos_iff_ne_zero.mp hc'))
  obtain ⟨rfl, rfl⟩ := q.2.1 rfl
  refine or_if_eqZ (b := true) 41 E dJ0_init_db425_19 rfl (fun q => absurd q (by decide)) (fun _ => ?_)
  refine or_aload_n E rfl dJ0_init_db425_22 ?_
  refine or_iconst (v := nI 0) E rfl dJ0_init_db425_23 ?_
  refine or_putF (x := .int 0) E F fs_100_15 .byte ff_11_1 (by decide) (by decide) dJ0_init_db425_24 hA rfl ?_
  refine or_aload_n E rfl dJ0_init_db425_27 ?_
  refine or_aload_n E rfl dJ0_init_db425_28 ?_
  refine or_iconst (v := nI 0) E rfl dJ0_init_db425_29 ?_
  refine or_iload E rfl dJ0_init_db425_30 ?_
  refine or_fT3r (cj7_copyOfRange (Z := Z) hB hf hnm h3 hm) E G F lk_100_54 dJ0_init_db425_32 (by decide) (by decide) ⟨by omega, by omega⟩ (Nat.le_of_ble_eq_true rfl) (fun _ => ?_) (fun h => absurd h (Nat.lt_irrefl 0))
  refine or_putF E F fs_100_9 (.array .byte) ff_11_0 rfl rfl dJ0_init_db425_35 hA1 rfl ?_
  refine or_goto 97 E dJ0_init_db425_38 rfl ?_
  refine or_re (S1 := ts_S S a n) (ow_re_o hA1 (fun k => ?_)) ?_
  · match k with
    | 0 =>
      show ow_u (ow_u V a 1 (.int 0)) a 0 (.ref (a + 1)) a 0 = .ref (a + 1)
      rw [ow_u_s]
    | 1 =>
      show ow_u (ow_u V a 1 (.int 0)) a 0 (.ref (a + 1)) a 1 = .int (ow_cp (ow_nI I (a + 1)) b (a + 1) n a 1)
      rw [ow_u_k _ _ _ _ (by decide), ow_u_s, ow_cp_a (by omega), ow_nI_o I (by omega), hI]
    | k + 2 => rfl
  exact or_xr E F (fun X' E' F' => or_vret E' F' dJ0_init_db425_97 (Nat.le_of_ble_eq_true rfl) (Nat.le_of_ble_eq_true rfl) (hk.1 rfl))
set_option maxRecDepth 100000 in
set_option maxHeartbeats 400000 in
theorem cj0_initB {Z : Nat → Nat} {S : Nat → Option ow_Sh} {I : ow_I} {V : Nat → Nat → Value} {a o b n : Nat} {t : Nat → Nat} (hA : S a = some (.inl (11, raw11))) (hI : I a 1 = 0) (hX : sb_X o b n t (S, I, V, a + 1)) (h3 : n ≤ 300) : ow_Cx Z yJ0_init_81219 cJ0_init_81219 2 none 5 1 300 [.ref a, .ref o] (S, I, V, a + 1) (ox_s (ts_S S a n) (ts_V V a) (a + 2) 0 none (ts_I I a b n)) := by
  refine ow_Cx.off rfl (Nat.le_of_ble_eq_true rfl) (fun X K E G F hk => ?_)
  have E : ow_E X RX100 cJ0_init_81219 2 (ow_rm 5 1 300) := E
  have hX0 := hX
  obtain ⟨hS, hb, hc, hn, m, hB, hnm, hm, hL, hf⟩ := hX
  dsimp only at hS hb hc hn hB hL hf
  have hao : a ≠ o := fun e => by rw [e] at hA; unfold sb_S at hS; rw [hS] at hA; cases hA
  have hab : a ≠ b := fun e => by rw [e, hB] at hA; cases hA
  refine or_lv [(0, .ref a), (1, .ref o)] rfl ?_
  refine or_aload_n E rfl dJ0_init_81219_0 ?_
  refine or_aload_n E rfl dJ0_init_81219_1 ?_
  refine or_null E dJ0_init_81219_2 ?_
  refine or_xI [.ref o, .null] (cj0_initA (Z := Z) hA hI hX0 h3) E G F lz_100_489 dJ0_init_81219_3 rfl (by decide) (by decide) ⟨by omega, by omega⟩ (Nat.le_of_ble_eq_true rfl) (fun r h1 q => ?_) (fun c' h1 hc' q => absurd q.1 (Nat.pos_iff_ne_zero.mp hc'))
  obtain ⟨rfl, rfl⟩ := q.2.1 rfl
  exact or_xr E F (fun X' E' F' => or_vret E' F' dJ0_init_81219_6 (Nat.le_of_ble_eq_true rfl) (Nat.le_of_ble_eq_true rfl) (hk.1 rfl))
set_option maxRecDepth 100000 in
set_option maxHeartbeats 400000 in
theorem cj4_toString {Z : Nat → Nat} {S : Nat → Option ow_Sh} {I : ow_I} {V : Nat → Nat → Value} {z o b n : Nat} {t : Nat → Nat} (hX : sb_X o b n t (S, I, V, z)) (h3 : n ≤ 300) (ht : ∀ i, i < n → t i < 128) : ow_Cx Z yJ4_toString_0e30d cJ4_toString_0e30d 1 (some (.object "java/lang/String")) 6 2 304 [.ref o] (S, I, V, z) (fun c r h1 => c = 0 ∧ r = some (.ref z) ∧ ∃ (S1 : Nat → Option ow_Sh) (I1 : ow_I) (V1 : Nat → Nat → Value), h1 = (S1, I1, V1, z + 2) ∧ tf z n t h1 ∧ bl S S1 z ∧ bl I I1 z ∧ bl V V1 z) := by
  obtain ⟨K, hK⟩ : ∃ K : Nat → Option Value → ow_H → Prop, K = (fun c r h1 => c = 0 ∧ r = some (.ref z) ∧ ∃ (S1 : Nat → Option ow_Sh) (I1 : ow_I) (V1 : Nat → Nat → Value), h1 = (S1, I1, V1, z + 2) ∧ tf z n t h1 ∧ bl S S1 z ∧ bl I I1 z ∧ bl V V1 z) := ⟨_, rfl⟩
  rw [← hK]
  refine ow_Cx.of rfl (Nat.le_of_ble_eq_true rfl) (fun X E G F => ?_)
  have E : ow_E X RX104 cJ4_toString_0e30d 1 (ow_rm 6 2 304) := E
  refine or_lv [(0, .ref o)] rfl ?_
  have hX0 := hX
  obtain ⟨hS, hb, hc, hn, m, hB, hnm, hm, hL, hf⟩ := hX
  dsimp only at hS hb hc hn hB hL hf
  refine or_ltz (fun hlt => ?_)
  have hoz : o ≠ z := by
    have := hlt o _ hS
    omega
  have hbz : b ≠ z := by
    have := hlt b _ hB
    omega
  have hb1 := hlt b _ hB
  have hX1 : sb_X o b n t (ow_nS S z (.inl (11, raw11)), ow_nI I z, ow_nV V z (fun k => if k = 0 then .null else .int 0), z + 1) := by
    refine ⟨(ow_nS_o S _ hoz).trans hS, ?_, ?_, ?_, m, (ow_nS_o S _ hbz).trans hB, hnm, hm, ?_, ?_⟩
    · show ow_nV V z (fun k => if k = 0 then .null else .int 0) o 0 = .ref b
      rw [ow_nV_o V _ hoz]; exact hb
    · show ow_nI I z o 1 = 0
      rw [ow_nI_o I hoz]; exact hc
    · show ow_nI I z o 3 = nI n
      rw [ow_nI_o I hoz]; exact hn
    · show sb_Lat t n (ow_nI I z b)
      rw [ow_nI_o I hbz]; exact hL
    · show sb_Fit (ow_nI I z b)
      rw [ow_nI_o I hbz]; exact hf
  refine or_newO (f := fun k => if k = 0 then .null else .int 0) (ci := 11) (κ := raw11) E (ow_T_in 708 (by decide +kernel) (by decide +kernel)) (ow_T_in 709 (by decide +kernel) (by decide +kernel)) (ow_T_in 14 (by decide +kernel) (by decide +kernel)) rfl ow_ok11 tyJ0_ok df_11 dJ4_toString_0e30d_0 (Nat.le_of_ble_eq_true rfl) (Nat.le_of_ble_eq_true rfl) ?_
  refine or_dup E rfl dJ4_toString_0e30d_3 ?_
  refine or_aload_n E rfl dJ4_toString_0e30d_4 ?_
  refine or_xI [.ref o] (cj0_initB (Z := Z) (ow_nS_s S z _) (ow_nI_s I z 1) hX1 h3) E G F lz_104_137 dJ4_toString_0e30d_5 rfl (by decide) (by decide) ⟨by omega, by omega⟩ (Nat.le_of_ble_eq_true rfl) (fun r h1 q => ?_) (fun c' h1 hc' q => absurd q.1 (Nat.pos_iff_ne_zero.mp hc'))
  obtain ⟨rfl, rfl⟩ := q.2.1 rfl
  refine or_xr E F (fun X' E' F' => or_aret E' F' (Or.inl ⟨_, rfl⟩) (Or.inr ⟨_, rfl⟩) dJ4_toString_0e30d_8 (Nat.le_of_ble_eq_true rfl) (Nat.le_of_ble_eq_true rfl) ?_)
  rw [hK]
  refine ⟨rfl, rfl, _, _, _, rfl, ⟨ow_nS_s _ _ _, ?_, (ow_nS_o _ _ (by omega)).trans (ow_nS_s _ _ _), h3, fun i hi => ⟨ht i hi, ?_⟩⟩, fun c hcz => ?_, fun c hcz => ?_, fun c hcz => ?_⟩
  · show ow_cp (ow_nI (ow_nI I z) (z + 1)) b (z + 1) n z 1 = nI 0
    rw [ow_cp_a (by omega), ow_nI_o _ (by omega), ow_nI_s]
    rfl
  · show ow_cp (ow_nI (ow_nI I z) (z + 1)) b (z + 1) n (z + 1) i = nI (t i)
    rw [ow_cp_in hi, ow_nI_o _ (by omega), ow_nI_o _ hbz, (hL i hi).2, by_b (ht i hi)]
  · unfold ts_S
    rw [ow_nS_o _ _ (by omega), ow_nS_o _ _ (by omega), ow_nS_o _ _ (by omega)]
  · unfold ts_I
    rw [ow_cp_a (by omega), ow_nI_o _ (by omega), ow_nI_o _ (by omega)]
  · unfold ts_V
    funext j
    rw [ow_u_a _ _ _ _ (by omega), ow_u_a _ _ _ _ (by omega), ow_nV_o _ _ (by omega)]
