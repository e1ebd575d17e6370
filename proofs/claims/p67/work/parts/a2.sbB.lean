theorem lc_107_150 : ow_lc RX107 150 := ⟨ow_T_in 619 (by decide +kernel) (by decide +kernel), ow_T_in 621 (by decide +kernel) (by decide +kernel), ow_T_in 620 (by decide +kernel) (by decide +kernel), ow_T_in 21 (by decide +kernel) (by decide +kernel)⟩
theorem lm_107_304 : ow_lm RX107 304 Lib.Math.min.name Lib.Math.min.code := ⟨ow_T_in 618 (by decide +kernel) (by decide +kernel), ow_T_in 437 (by decide +kernel) (by decide +kernel), ow_T_in 18 (by decide +kernel) (by decide +kernel), ow_T_in 438 (by decide +kernel) (by decide +kernel)⟩
theorem fl_105_15 : ow_fl RX105 15 12 0 := ⟨_, rfl, by decide, ow_T_in 345 (by decide +kernel) (by decide +kernel), ow_ok12⟩
theorem lk_105_114 : ow_lt RX105 114 yJ8_newLength_cabcc cJ8_newLength_cabcc 4 (some .int) 3 := ⟨ow_T_in 599 (by decide +kernel) (by decide +kernel), ow_T_in 600 (by decide +kernel) (by decide +kernel), ow_T_in 19 (by decide +kernel) (by decide +kernel), ow_T_in 601 (by decide +kernel) (by decide +kernel), ⟨by decide +kernel, by decide +kernel, by decide +kernel⟩⟩
theorem wd_607 : Cond.constant RX105 39 (nI 2147483647) ∈ ow_T := ow_T_in 607 (by decide +kernel) (by decide +kernel)
theorem wt_690 : Cond.fieldLink "java/lang/Integer" 83 "java/lang/Integer" "DigitOnes" "[B" ∈ ow_T := ow_T_in 690 (by decide +kernel) (by decide +kernel)
theorem wt_692 : Cond.fieldLink "java/lang/Integer" 87 "java/lang/Integer" "DigitTens" "[B" ∈ ow_T := ow_T_in 692 (by decide +kernel) (by decide +kernel)
theorem j6_st {v n i q : Nat} {I : ow_I} (hv : v < 2 ^ 31) (hq : q < 2 ^ 31) (hi : i < 10) : j6_stringSize_0f7a4_L16 v (n + 1) I (-nI q) i = if q ≤ v then j6_stringSize_0f7a4_L16 v n I (nI 10 * -nI q) (i + 1) else i := by
  rw [j6_stringSize_0f7a4_L16, if_neg (by omega)]
  by_cases h : q ≤ v
  · rw [if_pos h, if_pos ((sb_nle hv hq).mpr h)]
  · rw [if_neg h, if_neg (fun z => h ((sb_nle hv hq).mp z))]
    rfl
theorem j6_size {v : Nat} {I : ow_I} (hv : v < 2 ^ 31) : j6_stringSize_0f7a4 v I = sb_dg v := by
  have e : j6_stringSize_0f7a4 v I = if 10 ≤ v then (if 100 ≤ v then (if 1000 ≤ v then (if 10000 ≤ v then (if 100000 ≤ v then (if 1000000 ≤ v then (if 10000000 ≤ v then (if 100000000 ≤ v then (if 1000000000 ≤ v then 10 else 9) else 8) else 7) else 6) else 5) else 4) else 3) else 2) else 1 := by
    unfold j6_stringSize_0f7a4
    rw [show (-10 : Int32) = -nI 10 by decide, j6_st hv (by decide) (by decide), show nI 10 * -nI 10 = -nI 100 by decide, j6_st hv (by decide) (by decide), show nI 10 * -nI 100 = -nI 1000 by decide, j6_st hv (by decide) (by decide), show nI 10 * -nI 1000 = -nI 10000 by decide, j6_st hv (by decide) (by decide), show nI 10 * -nI 10000 = -nI 100000 by decide, j6_st hv (by decide) (by decide), show nI 10 * -nI 100000 = -nI 1000000 by decide, j6_st hv (by decide) (by decide), show nI 10 * -nI 1000000 = -nI 10000000 by decide, j6_st hv (by decide) (by decide), show nI 10 * -nI 10000000 = -nI 100000000 by decide, j6_st hv (by decide) (by decide), show nI 10 * -nI 100000000 = -nI 1000000000 by decide, j6_st hv (by decide) (by decide)]
    rfl
  rw [e]
  unfold sb_dg
  (repeat' split) <;> omega
def gc_K (S : Nat → Option ow_Sh) (I : ow_I) (V : Nat → Nat → Value) (z a n p v : Nat) : Nat → Option Value → ow_H → Prop := fun c r h1 => c = 0 ∧ r = some (.int (nI n)) ∧ ∃ I' : ow_I, h1 = (S, I', V, z) ∧ (∀ b j, (b ≠ a ∨ j < n ∨ p ≤ j) → I' b j = I b j) ∧ ∀ i, i < sb_dg v → I' a (p - 1 - i) = sb_b (48 + v / 10 ^ i % 10)
set_option maxRecDepth 100000 in
set_option maxHeartbeats 400000 in
theorem cj6_getChars {Z : Nat → Nat} {S : Nat → Option ow_Sh} {I : ow_I} {V : Nat → Nat → Value} {z v p n m a : Nat} (hv : v < 2 ^ 31) (hp : p = n + sb_dg v) (hpm : p ≤ m) (hm : m ≤ 65536) (hA : S a = some (.inr (.byte, m, ow_n))) : ow_Cx Z yJ6_getChars_ba4f3 cJ6_getChars_ba4f3 7 (some .int) 0 0 0 [.int (nI v), .int (nI p), .ref a] (S, I, V, z) (gc_K S I V z a n p v) := by
  subst hp
  refine ow_Cx.of rfl (Nat.le_of_ble_eq_true rfl) (fun X E G F => ?_)
  have E : ow_E X RX106 cJ6_getChars_ba4f3 7 (ow_rm 0 0 0) := E
  have L22 : ∀ (f w p : Nat) (J : ow_I), w < f → w < 2 ^ 31 → p = n + sb_dg w → p ≤ m → (∀ I' : ow_I, (∀ b j, (b ≠ a ∨ j < n ∨ p ≤ j) → I' b j = J b j) → (∀ i, i < sb_dg w → I' a (p - 1 - i) = sb_b (48 + w / 10 ^ i % 10)) → gc_K S I V z a n (n + sb_dg v) v 0 (some (.int (nI n))) (S, I', V, z)) → ow_W X 0 0 (S, J, V, z) 22 [(0, .int (-nI w)), (2, .ref a), (5, .int (nI p)), (6, .int (nI 0))] [] := by
    intro f
    induction f with
    | zero => intro w p J h; omega
    | succ f ih =>
      intro w p J hwf hw hp hpm hP
      have hd1 := (sb_dg_in w).1
      have ex : ∀ (J1 : ow_I) (lv : List (Nat × Value)), ow_g lv 5 = some (.int (nI n)) → ow_g lv 6 = some (.int (nI 0)) → gc_K S I V z a n (n + sb_dg v) v 0 (some (.int (nI n))) (S, J1, V, z) → ow_W X 0 0 (S, J1, V, z) 104 lv [] := by
        intro J1 lv h5 h6 hk
        refine or_iload E h6 dJ6_getChars_ba4f3_104 ?_
        refine or_if_eqN 118 E dJ6_getChars_ba4f3_106 rfl (by decide) (fun _ => ?_) (fun q => absurd rfl q)
        refine or_iload E h5 dJ6_getChars_ba4f3_118 ?_
        exact or_xr E F (fun X' E' F' => or_iret E' F' dJ6_getChars_ba4f3_120 (Nat.le_of_ble_eq_true rfl) (Nat.le_of_ble_eq_true rfl) hk)
      refine or_iload_n E rfl dJ6_getChars_ba4f3_22 ?_
      refine or_bipush (v := -100) E rfl dJ6_getChars_ba4f3_23 ?_
      by_cases h100 : w < 100
      · refine or_icmp_gt 72 E dJ6_getChars_ba4f3_25 rfl (fun _ => ?_) (fun q => absurd ((sb_nlt (a := 100) (by decide) hw).mpr h100) q)
        refine or_aload_n E rfl dJ6_getChars_ba4f3_72 ?_
        refine or_iincM E dJ6_getChars_ba4f3_73 (by omega) rfl (by decide) ?_
        refine or_iload E rfl dJ6_getChars_ba4f3_76 ?_
        refine or_gs E (og_3 G 1 rfl) wt_690 dJ6_getChars_ba4f3_78 ?_
        refine or_iload_n E rfl dJ6_getChars_ba4f3_81 ?_
        refine or_ineg E dJ6_getChars_ba4f3_82 ?_
        refine or_top (y := nI w) Int32.neg_neg ?_
        refine or_gba (j := w) E (og_10 G) h100 (by decide) dJ6_getChars_ba4f3_83 ?_
        refine ot_bast (j := p - 1) E dJ6_getChars_ba4f3_84 hA rfl rfl (by omega) (by omega) ?_
        refine or_iload_n E rfl dJ6_getChars_ba4f3_85 ?_
        refine or_bipush (v := -9) E rfl dJ6_getChars_ba4f3_86 ?_
        by_cases h9 : w < 10
        · refine or_icmp_ge 104 E dJ6_getChars_ba4f3_88 rfl (fun _ => ?_) (fun q => absurd ((sb_nle (a := 9) (by decide) hw).mpr (by omega)) q)
          have hd : sb_dg w = 1 := if_pos h9
          refine ex _ _ (by rw [show n = p - 1 by omega]; rfl) rfl (hP _ (fun b j hj => ?_) (fun i hi => ?_))
          · rcases hj with hj | hj
            · exact ow_u_a _ _ _ _ hj _
            · exact ow_u_k _ _ _ _ (by omega) _
          · obtain rfl : i = 0 := by omega
            rw [Nat.sub_zero, ow_u_s, Nat.pow_zero, Nat.div_one]
            rfl
        · have hd : sb_dg w = 2 := by rw [sb_dg, if_neg h9, if_pos h100]
          refine or_icmp_ge 104 E dJ6_getChars_ba4f3_88 rfl (fun q => absurd ((sb_nle (a := 9) (by decide) hw).mp q) (by omega)) (fun _ => ?_)
          refine or_aload_n E rfl dJ6_getChars_ba4f3_91 ?_
          refine or_iincM E dJ6_getChars_ba4f3_92 (by omega) rfl (by decide) ?_
          refine or_iload E rfl dJ6_getChars_ba4f3_95 ?_
          refine or_gs E (og_3 G 2 rfl) wt_692 dJ6_getChars_ba4f3_97 ?_
          refine or_iload_n E rfl dJ6_getChars_ba4f3_100 ?_
          refine or_ineg E dJ6_getChars_ba4f3_101 ?_
          refine or_top (y := nI w) Int32.neg_neg ?_
          refine or_gba (j := w) E (og_11 G) h100 (by decide) dJ6_getChars_ba4f3_102 ?_
          refine ot_bast (j := p - 1 - 1) E dJ6_getChars_ba4f3_103 hA rfl rfl (by omega) (by omega) ?_
          have d2 : w / 10 % 10 = w / 10 := by omega
          refine ex _ _ (by rw [show n = p - 1 - 1 by omega]; rfl) rfl (hP _ (fun b j hj => ?_) (fun i hi => ?_))
          · rcases hj with hj | hj
            · rw [ow_u_a _ _ _ _ hj, ow_u_a _ _ _ _ hj]
            · rw [ow_u_k _ _ _ _ (by omega), ow_u_k _ _ _ _ (by omega)]
          · obtain rfl | rfl : i = 0 ∨ i = 1 := by omega
            · rw [Nat.sub_zero, ow_u_k _ _ _ _ (by omega), ow_u_s, Nat.pow_zero, Nat.div_one]
              rfl
            · rw [ow_u_s, Nat.pow_one, d2]
              rfl
      · have hd := sb_dg100 (w := w) (by omega) hw
        have hd2 := (sb_dg_in (w / 100)).1
        refine or_icmp_gt 72 E dJ6_getChars_ba4f3_25 rfl (fun q => absurd ((sb_nlt (a := 100) (by decide) hw).mp q) h100) (fun _ => ?_)
        refine or_iload_n E rfl dJ6_getChars_ba4f3_28 ?_
        refine or_bipush (v := 100) E rfl dJ6_getChars_ba4f3_29 ?_
        refine or_idiv E (by decide) dJ6_getChars_ba4f3_31 ?_
        refine or_top (y := -nI (w / 100)) (sb_ndiv hw) ?_
        refine or_istore_n E dJ6_getChars_ba4f3_32 (by decide) ?_
        refine or_iload_n E rfl dJ6_getChars_ba4f3_33 ?_
        refine or_bipush (v := 100) E rfl dJ6_getChars_ba4f3_34 ?_
        refine or_imul E dJ6_getChars_ba4f3_36 ?_
        refine or_iload_n E rfl dJ6_getChars_ba4f3_37 ?_
        refine or_isub E dJ6_getChars_ba4f3_38 ?_
        refine or_top (y := nI (w % 100)) (sb_nrem hw) ?_
        refine or_istore E dJ6_getChars_ba4f3_39 (by decide) ?_
        refine or_iload_n E rfl dJ6_getChars_ba4f3_41 ?_
        refine or_istore_n E dJ6_getChars_ba4f3_42 (by decide) ?_
        refine or_aload_n E rfl dJ6_getChars_ba4f3_43 ?_
        refine or_iincM E dJ6_getChars_ba4f3_44 (by omega) rfl (by decide) ?_
        refine or_iload E rfl dJ6_getChars_ba4f3_47 ?_
        refine or_gs E (og_3 G 1 rfl) wt_690 dJ6_getChars_ba4f3_49 ?_
        refine or_iload E rfl dJ6_getChars_ba4f3_52 ?_
        refine or_gba (j := w % 100) E (og_10 G) (by omega) (by decide) dJ6_getChars_ba4f3_54 ?_
        refine ot_bast (j := p - 1) E dJ6_getChars_ba4f3_55 hA rfl rfl (by omega) (by omega) ?_
        refine or_aload_n E rfl dJ6_getChars_ba4f3_56 ?_
        refine or_iincM E dJ6_getChars_ba4f3_57 (by omega) rfl (by decide) ?_
        refine or_iload E rfl dJ6_getChars_ba4f3_60 ?_
        refine or_gs E (og_3 G 2 rfl) wt_692 dJ6_getChars_ba4f3_62 ?_
        refine or_iload E rfl dJ6_getChars_ba4f3_65 ?_
        refine or_gba (j := w % 100) E (og_11 G) (by omega) (by decide) dJ6_getChars_ba4f3_67 ?_
        refine ot_bast (j := p - 1 - 1) E dJ6_getChars_ba4f3_68 hA rfl rfl (by omega) (by omega) ?_
        refine or_goto 22 E dJ6_getChars_ba4f3_69 rfl ?_
        refine or_lv [(0, .int (-nI (w / 100))), (2, .ref a), (5, .int (nI (p - 1 - 1))), (6, .int (nI 0))] rfl ?_
        refine ih (w / 100) (p - 1 - 1) _ (by omega) (by omega) (by omega) (by omega) (fun I' h1 h2 => hP I' (fun b j hj => ?_) (fun i hi => ?_))
        · rcases hj with hj | hj
          · rw [h1 b j (Or.inl hj), ow_u_a _ _ _ _ hj, ow_u_a _ _ _ _ hj]
          · rw [h1 b j (Or.inr (by omega)), ow_u_k _ _ _ _ (by omega), ow_u_k _ _ _ _ (by omega)]
        · match i, hi with
          | 0, _ =>
            rw [Nat.sub_zero, h1 a _ (Or.inr (by omega)), ow_u_k _ _ _ _ (by omega), ow_u_s, Nat.pow_zero, Nat.div_one, show w % 100 % 10 = w % 10 by omega]
            rfl
          | 1, _ =>
            rw [h1 a _ (Or.inr (by omega)), ow_u_s, Nat.pow_one, show w % 100 / 10 = w / 10 % 10 by omega]
            rfl
          | k + 2, hi => rw [show p - 1 - (k + 2) = p - 1 - 1 - 1 - k by omega, h2 k (by omega), Nat.div_div_eq_div_mul, show 100 * 10 ^ k = 10 ^ (k + 2) by rw [show k + 2 = k + 1 + 1 from rfl, Nat.pow_succ, Nat.pow_succ]; omega]
  refine or_lv [(0, .int (nI v)), (1, .int (nI (n + sb_dg v))), (2, .ref a)] rfl ?_
  refine or_iload_n E rfl dJ6_getChars_ba4f3_0 ?_
  refine or_istore E dJ6_getChars_ba4f3_1 (by decide) ?_
  refine or_iload_n E rfl dJ6_getChars_ba4f3_3 ?_
  refine or_if_ge 11 E dJ6_getChars_ba4f3_4 rfl (fun _ => ?_) (fun q => absurd (nI_pos' hv) q)
  refine or_iconst (v := nI 0) E rfl dJ6_getChars_ba4f3_11 ?_
  refine or_istore E dJ6_getChars_ba4f3_12 (by decide) ?_
  refine or_iload E rfl dJ6_getChars_ba4f3_14 ?_
  refine or_if_neN 22 E dJ6_getChars_ba4f3_16 rfl (by decide) (fun q => absurd rfl q) (fun _ => ?_)
  refine or_iload_n E rfl dJ6_getChars_ba4f3_19 ?_
  refine or_ineg E dJ6_getChars_ba4f3_20 ?_
  refine or_istore_n E dJ6_getChars_ba4f3_21 (by decide) ?_
  refine or_lv [(0, .int (-nI v)), (2, .ref a), (5, .int (nI (n + sb_dg v))), (6, .int (nI 0))] rfl ?_
  exact L22 (v + 1) v (n + sb_dg v) I (by omega) hv rfl hpm (fun I' h1 h2 => ⟨rfl, rfl, I', rfl, h1, h2⟩)
set_option maxRecDepth 100000 in
set_option maxHeartbeats 400000 in
theorem cj5_newCapacity {Z : Nat → Nat} {S : Nat → Option ow_Sh} {I : ow_I} {V : Nat → Nat → Value} {z o b m q : Nat} (hS : sb_S S o) (hb : V o 0 = .ref b) (hB : S b = some (.inr (.byte, m, ow_n))) (hc : I o 1 = 0) (h1 : m < q) (h2 : q ≤ 65536) : ow_Cx Z yJ5_newCapacity_0f7a4 cJ5_newCapacity_0f7a4 6 (some .int) 2 0 0 [.ref o, .int (nI q)] (S, I, V, z) (ox_s S V z 0 (some (.int (nI (sb_cap q m)))) I) := by
  refine ow_Cx.off rfl (Nat.le_of_ble_eq_true rfl) (fun X K E G F hk => ?_)
  have E : ow_E X RX105 cJ5_newCapacity_0f7a4 6 (ow_rm 2 0 0) := E
  have hC : m + max (q - m) (m + 2) = sb_cap q m := by
    unfold sb_cap
    rw [if_neg (by omega)]
    split <;> omega
  have hg : sb_cap q m ≤ 131074 := by rw [← hC]; omega
  have hg0 := sb_cap_ge q m
  refine or_lv [(0, .ref o), (1, .int (nI q))] rfl ?_
  refine or_aload_n E rfl dJ5_newCapacity_0f7a4_0 ?_
  refine ot_getV E fl_105_15 dJ5_newCapacity_0f7a4_1 hS rfl ?_
  rw [hb]
  refine or_alen E dJ5_newCapacity_0f7a4_4 hB ?_
  refine or_istore_n E dJ5_newCapacity_0f7a4_5 (by decide) ?_
  refine or_iload_n E rfl dJ5_newCapacity_0f7a4_6 ?_
  refine or_aload_n E rfl dJ5_newCapacity_0f7a4_7 ?_
  refine ot_getI E fl_105_22 dJ5_newCapacity_0f7a4_8 hS rfl ?_
  rw [hc]
  refine or_ishl E dJ5_newCapacity_0f7a4_11 ?_
  refine or_top (sb_shl0 _) ?_
  refine or_istore_n E dJ5_newCapacity_0f7a4_12 (by decide) ?_
  refine or_iload_n E rfl dJ5_newCapacity_0f7a4_13 ?_
  refine or_iload_n E rfl dJ5_newCapacity_0f7a4_14 ?_
  refine or_isubN E dJ5_newCapacity_0f7a4_15 (by omega) ?_
  refine or_istore E dJ5_newCapacity_0f7a4_16 (by decide) ?_
  refine or_iload_n E rfl dJ5_newCapacity_0f7a4_18 ?_
  refine or_iload E rfl dJ5_newCapacity_0f7a4_19 ?_
  refine or_iload_n E rfl dJ5_newCapacity_0f7a4_21 ?_
  refine or_iconst (v := nI 2) E rfl dJ5_newCapacity_0f7a4_22 ?_
  refine or_aload_n E rfl dJ5_newCapacity_0f7a4_23 ?_
  refine ot_getI E fl_105_22 dJ5_newCapacity_0f7a4_24 hS rfl ?_
  rw [hc]
  refine or_ishl E dJ5_newCapacity_0f7a4_27 ?_
  refine or_top (sb_shl0 _) ?_
  refine or_iaddN E dJ5_newCapacity_0f7a4_28 ?_
  refine or_fT3r (cj8_newLength_cabcc (Z := Z) (a := m) (b := q - m) (c := m + 2) (by omega) (by omega) (by omega) (by omega)) E G F lk_105_114 dJ5_newCapacity_0f7a4_29 (by decide) (by decide) ⟨(Nat.le_of_ble_eq_true rfl), (Nat.le_of_ble_eq_true rfl)⟩ (Nat.le_of_ble_eq_true rfl) (fun _ => ?_) (fun h => absurd h (Nat.lt_irrefl 0))
  refine or_top (y := nI (sb_cap q m)) (congrArg nI hC) ?_
  refine or_istore E dJ5_newCapacity_0f7a4_32 (by decide) ?_
  refine or_iload E rfl dJ5_newCapacity_0f7a4_34 ?_
  refine or_ldc (v := nI 2147483647) E wd_607 dJ5_newCapacity_0f7a4_36 ?_
  refine or_icmp_neN 51 E dJ5_newCapacity_0f7a4_38 rfl (by omega) (by decide) (fun _ => ?_) (fun q => absurd q (by omega))
  refine or_iload E rfl dJ5_newCapacity_0f7a4_51 ?_
  refine or_aload_n E rfl dJ5_newCapacity_0f7a4_53 ?_
  refine ot_getI E fl_105_22 dJ5_newCapacity_0f7a4_54 hS rfl ?_
  rw [hc]
  refine or_ishr E dJ5_newCapacity_0f7a4_57 ?_
  refine or_top (sb_shr0 _) ?_
  exact or_xr E F (fun X' E' F' => or_iret E' F' dJ5_newCapacity_0f7a4_58 (Nat.le_of_ble_eq_true rfl) (Nat.le_of_ble_eq_true rfl) (hk.1 rfl))
set_option maxRecDepth 100000 in
set_option maxHeartbeats 400000 in
theorem cj7_copyOf {Z : Nat → Nat} {S : Nat → Option ow_Sh} {I : ow_I} {V : Nat → Nat → Value} {z b m q : Nat} (hB : S b = some (.inr (.byte, m, ow_n))) (hf : sb_Fit (I b)) (h1 : m < q) (h2 : q ≤ 602) : ow_Cx Z yJ7_copyOf_9075b cJ7_copyOf_9075b 3 (some (.array .byte)) 2 1 602 [.ref b, .int (nI q)] (S, I, V, z) (ox_s (ow_nS S z (.inr (.byte, q, ow_n))) V (z + 1) 0 (some (.ref z)) (ow_cp (ow_nI I z) b z m)) := by
  refine ow_Cx.off rfl (Nat.le_of_ble_eq_true rfl) (fun X K E G F hk => ?_)
  have E : ow_E X RX107 cJ7_copyOf_9075b 3 (ow_rm 2 1 602) := E
  refine or_ltz (fun hlt => ?_)
  have hbz : b ≠ z := by
    have := hlt b _ hB
    omega
  have hB1 : ow_nS S z (.inr (.byte, q, ow_n)) b = some (.inr (.byte, m, ow_n)) := (ow_nS_o S _ hbz).trans hB
  have hZ1 : ow_nS S z (.inr (.byte, q, ow_n)) z = some (.inr (.byte, q, ow_n)) := ow_nS_s S z _
  refine or_lv [(0, .ref b), (1, .int (nI q))] rfl ?_
  refine or_iload_n E rfl dJ7_copyOf_9075b_0 ?_
  refine or_aload_n E rfl dJ7_copyOf_9075b_1 ?_
  refine or_alen E dJ7_copyOf_9075b_2 hB ?_
  refine or_icmp_neN 14 E dJ7_copyOf_9075b_3 rfl (by omega) (by omega) (fun _ => ?_) (fun q => absurd q (by omega))
  refine or_iload_n E rfl dJ7_copyOf_9075b_14 ?_
  refine or_newa (atype := .byte) (κ := ow_n) E (ow_T_in 358 (by decide +kernel) (by decide +kernel)) rfl (fun _ => rfl) dJ7_copyOf_9075b_15 (by omega) (by show q * 1 ≤ 536870912; omega) (Nat.le_of_ble_eq_true rfl) (by omega) ?_
  refine or_astore_n E dJ7_copyOf_9075b_17 (by decide) ?_
  refine or_aload_n E rfl dJ7_copyOf_9075b_18 ?_
  refine or_iconst (v := nI 0) E rfl dJ7_copyOf_9075b_19 ?_
  refine or_aload_n E rfl dJ7_copyOf_9075b_20 ?_
  refine or_iconst (v := nI 0) E rfl dJ7_copyOf_9075b_21 ?_
  refine or_aload_n E rfl dJ7_copyOf_9075b_22 ?_
  refine or_alen E dJ7_copyOf_9075b_23 hB1 ?_
  refine or_iload_n E rfl dJ7_copyOf_9075b_24 ?_
  refine or_mmin E lm_107_304 dJ7_copyOf_9075b_25 (Nat.le_of_ble_eq_true rfl) ⟨(Nat.le_of_ble_eq_true rfl), (by omega)⟩ (Nat.le_of_ble_eq_true rfl) ?_
  refine or_top (y := nI m) ((nI_mn (by omega) (by omega)).trans (congrArg nI (Nat.min_eq_left (by omega)))) ?_
  refine or_bcopy (n := m) E lc_107_150 dJ7_copyOf_9075b_28 hB1 hZ1 (fun _ _ => rfl) (fun _ _ => rfl) (Nat.le_refl _) (by omega) (fun j _ => by rw [ow_nI_o I hbz]; exact hf j) ⟨(Nat.le_of_ble_eq_true rfl), (Nat.le_of_ble_eq_true rfl)⟩ (by omega) ?_
  refine or_aload_n E rfl dJ7_copyOf_9075b_31 ?_
  exact or_xr E F (fun X' E' F' => or_aret E' F' (Or.inr ⟨_, rfl⟩) (Or.inr ⟨_, rfl⟩) dJ7_copyOf_9075b_32 (Nat.le_of_ble_eq_true rfl) (by omega) (hk.1 rfl))
