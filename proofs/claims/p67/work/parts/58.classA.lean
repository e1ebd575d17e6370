/-! THE CLASS: its cells; its methods, leaves first (laid by wip/whole/class1.py) -/
def td_S (S : Nat → Option ow_Sh) (t : Nat) : Prop := S t = some (.inl (8, ow_n))
def by_S (S : Nat → Option ow_Sh) (b : Nat) : Prop := S b = some (.inl (2, ow_n))
def i9_S (S : Nat → Option ow_Sh) (b : Nat) : Prop := S b = some (.inr (.int, 9, ow_n))
def br_k (b : Nat) : Nat → Option (Option Value) := fun k => match k with
  | 0 => some (some (.ref (b + 1)))
  | _ => none
def br_S (S : Nat → Option ow_Sh) (b : Nat) : Prop := S b = some (.inl (1, br_k b)) ∧ S (b + 1) = some (.inr (.int, 9, ow_n))
def mk_k (a : Nat) : Nat → Option (Option Value) := fun k => match k with
  | 0 => some (some (.ref (a + 1)))
  | 7 => some (some (.ref (a + 2)))
  | 9 => some (some (.ref (a + 3)))
  | 11 => some (some (.ref (a + 4)))
  | _ => none
def mk_by (a : Nat) : Nat → Option (Option Value) := fun j => some (some (.ref (a + 5 + j)))
def mk_br (a : Nat) : Nat → Option (Option Value) := fun j => some (some (.ref (a + 11 + 2 * j)))
def mk_S (S : Nat → Option ow_Sh) (a : Nat) : Prop := S a = some (.inl (6, mk_k a)) ∧ td_S S (a + 1) ∧ S (a + 2) = some (.inr (.object "LowWaterAuction$Buyer", 6, mk_by a)) ∧ S (a + 3) = some (.inr (.object "LowWaterAuction$Barrel", 20, mk_br a)) ∧ S (a + 4) = some (.inr (.int, 20, ow_n)) ∧ (∀ i, i < 6 → by_S S (a + 5 + i)) ∧ (∀ i, i < 20 → br_S S (a + 11 + 2 * i))
theorem ne_of_pos {x : Int32} (h : ¬ x ≤ 0) : ¬ x = 0 := fun e => h (by rw [e]; decide)
theorem lc_1_45 : ow_lc RX1 45 := ⟨ow_T_in 891 (by decide +kernel) (by decide +kernel), ow_T_in 621 (by decide +kernel) (by decide +kernel), ow_T_in 620 (by decide +kernel) (by decide +kernel), ow_T_in 21 (by decide +kernel) (by decide +kernel)⟩
theorem lm_1_60 : ow_lm RX1 60 Lib.Math.max.name Lib.Math.max.code := ⟨ow_T_in 523 (by decide +kernel) (by decide +kernel), ow_T_in 524 (by decide +kernel) (by decide +kernel), ow_T_in 18 (by decide +kernel) (by decide +kernel), ow_T_in 525 (by decide +kernel) (by decide +kernel)⟩
theorem fl_1_9 : ow_fl RX1 9 1 0 := ⟨_, rfl, by decide, ow_T_in 103 (by decide +kernel) (by decide +kernel), ow_ok1⟩
theorem fl_1_26 : ow_fl RX1 26 1 5 := ⟨_, rfl, by decide, ow_T_in 118 (by decide +kernel) (by decide +kernel), ow_ok1⟩
theorem fl_1_30 : ow_fl RX1 30 1 6 := ⟨_, rfl, by decide, ow_T_in 121 (by decide +kernel) (by decide +kernel), ow_ok1⟩
theorem fl_1_33 : ow_fl RX1 33 1 7 := ⟨_, rfl, by decide, ow_T_in 124 (by decide +kernel) (by decide +kernel), ow_ok1⟩
theorem fl_1_36 : ow_fl RX1 36 1 8 := ⟨_, rfl, by decide, ow_T_in 127 (by decide +kernel) (by decide +kernel), ow_ok1⟩
theorem fl_1_39 : ow_fl RX1 39 1 9 := ⟨_, rfl, by decide, ow_T_in 130 (by decide +kernel) (by decide +kernel), ow_ok1⟩
theorem fl_1_42 : ow_fl RX1 42 1 1 := ⟨_, rfl, by decide, ow_T_in 107 (by decide +kernel) (by decide +kernel), ow_ok1⟩
theorem fl_1_51 : ow_fl RX1 51 1 2 := ⟨_, rfl, by decide, ow_T_in 111 (by decide +kernel) (by decide +kernel), ow_ok1⟩
theorem fl_1_54 : ow_fl RX1 54 1 3 := ⟨_, rfl, by decide, ow_T_in 114 (by decide +kernel) (by decide +kernel), ow_ok1⟩
theorem fl_1_57 : ow_fl RX1 57 1 4 := ⟨_, rfl, by decide, ow_T_in 117 (by decide +kernel) (by decide +kernel), ow_ok1⟩
theorem fl_2_7 : ow_fl RX2 7 2 0 := ⟨_, rfl, by decide, ow_T_in 73 (by decide +kernel) (by decide +kernel), ow_ok2⟩
theorem fl_2_13 : ow_fl RX2 13 2 1 := ⟨_, rfl, by decide, ow_T_in 76 (by decide +kernel) (by decide +kernel), ow_ok2⟩
theorem fl_2_16 : ow_fl RX2 16 2 2 := ⟨_, rfl, by decide, ow_T_in 78 (by decide +kernel) (by decide +kernel), ow_ok2⟩
theorem fl_2_19 : ow_fl RX2 19 2 3 := ⟨_, rfl, by decide, ow_T_in 80 (by decide +kernel) (by decide +kernel), ow_ok2⟩
theorem fl_2_22 : ow_fl RX2 22 2 4 := ⟨_, rfl, by decide, ow_T_in 83 (by decide +kernel) (by decide +kernel), ow_ok2⟩
theorem fl_2_25 : ow_fl RX2 25 1 2 := ⟨_, rfl, by decide, ow_T_in 110 (by decide +kernel) (by decide +kernel), ow_ok1⟩
theorem fl_2_32 : ow_fl RX2 32 1 1 := ⟨_, rfl, by decide, ow_T_in 106 (by decide +kernel) (by decide +kernel), ow_ok1⟩
theorem fl_2_37 : ow_fl RX2 37 1 3 := ⟨_, rfl, by decide, ow_T_in 113 (by decide +kernel) (by decide +kernel), ow_ok1⟩
theorem fl_2_40 : ow_fl RX2 40 1 4 := ⟨_, rfl, by decide, ow_T_in 116 (by decide +kernel) (by decide +kernel), ow_ok1⟩
theorem fl_8_9 : ow_fl RX8 9 8 0 := ⟨_, rfl, by decide, ow_T_in 50 (by decide +kernel) (by decide +kernel), ow_ok8⟩
theorem fl_8_15 : ow_fl RX8 15 8 1 := ⟨_, rfl, by decide, ow_T_in 52 (by decide +kernel) (by decide +kernel), ow_ok8⟩
theorem fl_8_18 : ow_fl RX8 18 8 2 := ⟨_, rfl, by decide, ow_T_in 54 (by decide +kernel) (by decide +kernel), ow_ok8⟩
theorem fw_1_1 : ∃ r : vw_C, ow_cl[1]? = some r ∧ (r.2.1 1).2.2.2 = false ∧ parseFieldDescriptor (r.2.1 1).2.2.1 = some .int := ⟨_, rfl, rfl, by decide +kernel⟩
theorem fw_1_2 : ∃ r : vw_C, ow_cl[1]? = some r ∧ (r.2.1 2).2.2.2 = false ∧ parseFieldDescriptor (r.2.1 2).2.2.1 = some .int := ⟨_, rfl, rfl, by decide +kernel⟩
theorem fw_1_3 : ∃ r : vw_C, ow_cl[1]? = some r ∧ (r.2.1 3).2.2.2 = false ∧ parseFieldDescriptor (r.2.1 3).2.2.1 = some .int := ⟨_, rfl, rfl, by decide +kernel⟩
theorem fw_1_4 : ∃ r : vw_C, ow_cl[1]? = some r ∧ (r.2.1 4).2.2.2 = false ∧ parseFieldDescriptor (r.2.1 4).2.2.1 = some .int := ⟨_, rfl, rfl, by decide +kernel⟩
theorem fw_1_5 : ∃ r : vw_C, ow_cl[1]? = some r ∧ (r.2.1 5).2.2.2 = false ∧ parseFieldDescriptor (r.2.1 5).2.2.1 = some .int := ⟨_, rfl, rfl, by decide +kernel⟩
theorem fw_1_6 : ∃ r : vw_C, ow_cl[1]? = some r ∧ (r.2.1 6).2.2.2 = false ∧ parseFieldDescriptor (r.2.1 6).2.2.1 = some .int := ⟨_, rfl, rfl, by decide +kernel⟩
theorem fw_1_7 : ∃ r : vw_C, ow_cl[1]? = some r ∧ (r.2.1 7).2.2.2 = false ∧ parseFieldDescriptor (r.2.1 7).2.2.1 = some .int := ⟨_, rfl, rfl, by decide +kernel⟩
theorem fw_1_8 : ∃ r : vw_C, ow_cl[1]? = some r ∧ (r.2.1 8).2.2.2 = false ∧ parseFieldDescriptor (r.2.1 8).2.2.1 = some .int := ⟨_, rfl, rfl, by decide +kernel⟩
theorem fw_1_9 : ∃ r : vw_C, ow_cl[1]? = some r ∧ (r.2.1 9).2.2.2 = false ∧ parseFieldDescriptor (r.2.1 9).2.2.1 = some .int := ⟨_, rfl, rfl, by decide +kernel⟩
theorem fw_2_0 : ∃ r : vw_C, ow_cl[2]? = some r ∧ (r.2.1 0).2.2.2 = false ∧ parseFieldDescriptor (r.2.1 0).2.2.1 = some .int := ⟨_, rfl, rfl, by decide +kernel⟩
theorem fw_2_1 : ∃ r : vw_C, ow_cl[2]? = some r ∧ (r.2.1 1).2.2.2 = false ∧ parseFieldDescriptor (r.2.1 1).2.2.1 = some .int := ⟨_, rfl, rfl, by decide +kernel⟩
theorem fw_2_2 : ∃ r : vw_C, ow_cl[2]? = some r ∧ (r.2.1 2).2.2.2 = false ∧ parseFieldDescriptor (r.2.1 2).2.2.1 = some .int := ⟨_, rfl, rfl, by decide +kernel⟩
theorem fw_2_3 : ∃ r : vw_C, ow_cl[2]? = some r ∧ (r.2.1 3).2.2.2 = false ∧ parseFieldDescriptor (r.2.1 3).2.2.1 = some .int := ⟨_, rfl, rfl, by decide +kernel⟩
theorem fw_2_4 : ∃ r : vw_C, ow_cl[2]? = some r ∧ (r.2.1 4).2.2.2 = false ∧ parseFieldDescriptor (r.2.1 4).2.2.1 = some .int := ⟨_, rfl, rfl, by decide +kernel⟩
theorem fw_8_0 : ∃ r : vw_C, ow_cl[8]? = some r ∧ (r.2.1 0).2.2.2 = false ∧ parseFieldDescriptor (r.2.1 0).2.2.1 = some .int := ⟨_, rfl, rfl, by decide +kernel⟩
theorem fw_8_1 : ∃ r : vw_C, ow_cl[8]? = some r ∧ (r.2.1 1).2.2.2 = false ∧ parseFieldDescriptor (r.2.1 1).2.2.1 = some .int := ⟨_, rfl, rfl, by decide +kernel⟩
theorem fw_8_2 : ∃ r : vw_C, ow_cl[8]? = some r ∧ (r.2.1 2).2.2.2 = false ∧ parseFieldDescriptor (r.2.1 2).2.2.1 = some .int := ⟨_, rfl, rfl, by decide +kernel⟩
theorem wd_1225 : Cond.constantDouble RX2 30 (4636737291354636288 : UInt64) ∈ ow_T := ow_T_in 1225 (by decide +kernel) (by decide +kernel)
theorem wd_1226 : Cond.constantDouble RX2 35 (4621819117588971520 : UInt64) ∈ ow_T := ow_T_in 1226 (by decide +kernel) (by decide +kernel)
theorem wd_1227 : Cond.constantDouble RX2 43 (4617315517961601024 : UInt64) ∈ ow_T := ow_T_in 1227 (by decide +kernel) (by decide +kernel)
def T_isLow (t : Nat) (I : ow_I) : Bool :=
  if I t 0 ≤ 0 then false else if I t 1 ≤ (I t 2) - (I t 2) / (I t 0) * (I t 0) then false else true
set_option maxRecDepth 100000 in
set_option maxHeartbeats 400000 in
theorem cT_isLow {S : Nat → Option ow_Sh} {I : ow_I} {V : Nat → Nat → Value} {z : Nat} {t : Nat} (h_t : td_S S t)  : ow_Cf yX8_isLow cX8_isLow 1 (some .boolean) 0 [.ref t] (S, I, V, z) (some (.int (bi (T_isLow t I)))) (S, I, V, z) := by
  refine ow_Cf.of rfl (Nat.le_of_ble_eq_true rfl) (fun X K E F hk => ?_)
  have E : ow_E X RX8 cX8_isLow 1 (ow_rm 0 0 0) := E
  refine or_lv [(0, .ref t)] rfl ?_
  dsimp only [T_isLow] at hk
  refine or_aload_n E rfl dX8_isLow_0 ?_
  refine ot_getI E fl_8_9 dX8_isLow_1 h_t rfl ?_
  refine or_if_le 27 E dX8_isLow_4 rfl (fun q4 => ?_) (fun q4 => ?_)
  · replace hk := ite_p (P := fun r : Bool => K (some (.int (bi (r)))) (S, I, V, z)) q4 hk
    refine or_iconst (v := nI 0) E rfl dX8_isLow_27 ?_
    exact or_zret E F dX8_isLow_28 (Nat.le_refl _) (Nat.le_refl _) (bi_nar false) hk
  · replace hk := ite_n (P := fun r : Bool => K (some (.int (bi (r)))) (S, I, V, z)) q4 hk
    refine or_aload_n E rfl dX8_isLow_7 ?_
    refine ot_getI E fl_8_18 dX8_isLow_8 h_t rfl ?_
    refine or_aload_n E rfl dX8_isLow_11 ?_
    refine ot_getI E fl_8_9 dX8_isLow_12 h_t rfl ?_
    refine or_irem E (ne_of_pos q4) dX8_isLow_15 ?_
    refine or_aload_n E rfl dX8_isLow_16 ?_
    refine ot_getI E fl_8_15 dX8_isLow_17 h_t rfl ?_
    refine or_icmp_ge 27 E dX8_isLow_20 rfl (fun q20 => ?_) (fun q20 => ?_)
    · replace hk := ite_p (P := fun r : Bool => K (some (.int (bi (r)))) (S, I, V, z)) q20 hk
      refine or_iconst (v := nI 0) E rfl dX8_isLow_27 ?_
      exact or_zret E F dX8_isLow_28 (Nat.le_refl _) (Nat.le_refl _) (bi_nar false) hk
    · replace hk := ite_n (P := fun r : Bool => K (some (.int (bi (r)))) (S, I, V, z)) q20 hk
      refine or_iconst (v := nI 1) E rfl dX8_isLow_23 ?_
      refine or_goto 28 E dX8_isLow_24 rfl ?_
      exact or_zret E F dX8_isLow_28 (Nat.le_refl _) (Nat.le_refl _) (bi_nar true) hk
def T_hornBlows (t : Nat) (I : ow_I) : Bool :=
  if I t 0 ≤ 0 then false else if (I t 2) - (I t 2) / (I t 0) * (I t 0) = I t 1 then true else false
set_option maxRecDepth 100000 in
set_option maxHeartbeats 400000 in
theorem cT_hornBlows {S : Nat → Option ow_Sh} {I : ow_I} {V : Nat → Nat → Value} {z : Nat} {t : Nat} (h_t : td_S S t)  : ow_Cf yX8_hornBlows cX8_hornBlows 1 (some .boolean) 0 [.ref t] (S, I, V, z) (some (.int (bi (T_hornBlows t I)))) (S, I, V, z) := by
  refine ow_Cf.of rfl (Nat.le_of_ble_eq_true rfl) (fun X K E F hk => ?_)
  have E : ow_E X RX8 cX8_hornBlows 1 (ow_rm 0 0 0) := E
  refine or_lv [(0, .ref t)] rfl ?_
  dsimp only [T_hornBlows] at hk
  refine or_aload_n E rfl dX8_hornBlows_0 ?_
  refine ot_getI E fl_8_9 dX8_hornBlows_1 h_t rfl ?_
  refine or_if_le 27 E dX8_hornBlows_4 rfl (fun q4 => ?_) (fun q4 => ?_)
  · replace hk := ite_p (P := fun r : Bool => K (some (.int (bi (r)))) (S, I, V, z)) q4 hk
    refine or_iconst (v := nI 0) E rfl dX8_hornBlows_27 ?_
    exact or_zret E F dX8_hornBlows_28 (Nat.le_refl _) (Nat.le_refl _) (bi_nar false) hk
  · replace hk := ite_n (P := fun r : Bool => K (some (.int (bi (r)))) (S, I, V, z)) q4 hk
    refine or_aload_n E rfl dX8_hornBlows_7 ?_
    refine ot_getI E fl_8_18 dX8_hornBlows_8 h_t rfl ?_
    refine or_aload_n E rfl dX8_hornBlows_11 ?_
    refine ot_getI E fl_8_9 dX8_hornBlows_12 h_t rfl ?_
    refine or_irem E (ne_of_pos q4) dX8_hornBlows_15 ?_
    refine or_aload_n E rfl dX8_hornBlows_16 ?_
    refine ot_getI E fl_8_15 dX8_hornBlows_17 h_t rfl ?_
    refine or_icmp_ne 27 E dX8_hornBlows_20 rfl (fun q20 => ?_) (fun q20 => ?_)
    · replace hk := ite_n (P := fun r : Bool => K (some (.int (bi (r)))) (S, I, V, z)) q20 hk
      refine or_iconst (v := nI 0) E rfl dX8_hornBlows_27 ?_
      exact or_zret E F dX8_hornBlows_28 (Nat.le_refl _) (Nat.le_refl _) (bi_nar false) hk
    · replace hk := ite_p (P := fun r : Bool => K (some (.int (bi (r)))) (S, I, V, z)) q20 hk
      refine or_iconst (v := nI 1) E rfl dX8_hornBlows_23 ?_
      refine or_goto 28 E dX8_hornBlows_24 rfl ?_
      exact or_zret E F dX8_hornBlows_28 (Nat.le_refl _) (Nat.le_refl _) (bi_nar true) hk
def T_untilHorn (t : Nat) (I : ow_I) : Int32 :=
  if I t 0 ≤ 0 then (-1) else if I t 1 < I t 0 then if I t 1 - ((I t 2) - (I t 2) / (I t 0) * (I t 0)) ≤ 0 then I t 1 - ((I t 2) - (I t 2) / (I t 0) * (I t 0)) + (I t 0) else I t 1 - ((I t 2) - (I t 2) / (I t 0) * (I t 0)) else (-1)
set_option maxRecDepth 100000 in
set_option maxHeartbeats 400000 in
theorem cT_untilHorn {S : Nat → Option ow_Sh} {I : ow_I} {V : Nat → Nat → Value} {z : Nat} {t : Nat} (h_t : td_S S t)  : ow_Cf yX8_untilHorn cX8_untilHorn 2 (some .int) 0 [.ref t] (S, I, V, z) (some (.int (T_untilHorn t I))) (S, I, V, z) := by
  refine ow_Cf.of rfl (Nat.le_of_ble_eq_true rfl) (fun X K E F hk => ?_)
  have E : ow_E X RX8 cX8_untilHorn 2 (ow_rm 0 0 0) := E
  refine or_lv [(0, .ref t)] rfl ?_
  dsimp only [T_untilHorn] at hk
  refine or_aload_n E rfl dX8_untilHorn_0 ?_
  refine ot_getI E fl_8_9 dX8_untilHorn_1 h_t rfl ?_
  refine or_if_le 18 E dX8_untilHorn_4 rfl (fun q4 => ?_) (fun q4 => ?_)
  · replace hk := ite_p (P := fun r : Int32 => K (some (.int (r))) (S, I, V, z)) q4 hk
    refine or_iconst (v := -1) E rfl dX8_untilHorn_18 ?_
    exact or_iret E F dX8_untilHorn_19 (Nat.le_refl _) (Nat.le_refl _) hk
  · replace hk := ite_n (P := fun r : Int32 => K (some (.int (r))) (S, I, V, z)) q4 hk
    refine or_aload_n E rfl dX8_untilHorn_7 ?_
    refine ot_getI E fl_8_15 dX8_untilHorn_8 h_t rfl ?_
    refine or_aload_n E rfl dX8_untilHorn_11 ?_
    refine ot_getI E fl_8_9 dX8_untilHorn_12 h_t rfl ?_
    refine or_icmp_lt 20 E dX8_untilHorn_15 rfl (fun q15 => ?_) (fun q15 => ?_)
    · replace hk := ite_p (P := fun r : Int32 => K (some (.int (r))) (S, I, V, z)) q15 hk
      refine or_aload_n E rfl dX8_untilHorn_20 ?_
      refine ot_getI E fl_8_15 dX8_untilHorn_21 h_t rfl ?_
      refine or_aload_n E rfl dX8_untilHorn_24 ?_
      refine ot_getI E fl_8_18 dX8_untilHorn_25 h_t rfl ?_
      refine or_aload_n E rfl dX8_untilHorn_28 ?_
      refine ot_getI E fl_8_9 dX8_untilHorn_29 h_t rfl ?_
      refine or_irem E (ne_of_pos q4) dX8_untilHorn_32 ?_
      refine or_isub E dX8_untilHorn_33 ?_
      refine or_istore_n E dX8_untilHorn_34 (by decide) ?_
      refine or_iload_n E rfl dX8_untilHorn_35 ?_
      refine or_if_le 43 E dX8_untilHorn_36 rfl (fun q36 => ?_) (fun q36 => ?_)
      · replace hk := ite_p (P := fun r : Int32 => K (some (.int (r))) (S, I, V, z)) q36 hk
        refine or_iload_n E rfl dX8_untilHorn_43 ?_
        refine or_aload_n E rfl dX8_untilHorn_44 ?_
        refine ot_getI E fl_8_9 dX8_untilHorn_45 h_t rfl ?_
        refine or_iadd E dX8_untilHorn_48 ?_
        exact or_iret E F dX8_untilHorn_49 (Nat.le_refl _) (Nat.le_refl _) hk
      · replace hk := ite_n (P := fun r : Int32 => K (some (.int (r))) (S, I, V, z)) q36 hk
        refine or_iload_n E rfl dX8_untilHorn_39 ?_
        refine or_goto 49 E dX8_untilHorn_40 rfl ?_
        exact or_iret E F dX8_untilHorn_49 (Nat.le_refl _) (Nat.le_refl _) hk
    · replace hk := ite_n (P := fun r : Int32 => K (some (.int (r))) (S, I, V, z)) q15 hk
      refine or_iconst (v := -1) E rfl dX8_untilHorn_18 ?_
      exact or_iret E F dX8_untilHorn_19 (Nat.le_refl _) (Nat.le_refl _) hk
def T_copyFrom (t : Nat) (o : Nat) (I : ow_I) : ow_I :=
  lt (ow_u I t 0 (I o 0)) (fun (I1 : ow_I) => lt (ow_u I1 t 1 (I1 o 1)) (fun (I2 : ow_I) => lt (ow_u I2 t 2 (I2 o 2)) (fun (I3 : ow_I) => I3)))
set_option maxRecDepth 100000 in
set_option maxHeartbeats 400000 in
theorem cT_copyFrom {S : Nat → Option ow_Sh} {I : ow_I} {V : Nat → Nat → Value} {z : Nat} {t : Nat} {o : Nat} (h_t : td_S S t) (h_o : td_S S o)  : ow_Cf yX8_copyFrom cX8_copyFrom 2 none 0 [.ref t, .ref o] (S, I, V, z) none (S, T_copyFrom t o I, V, z) := by
  refine ow_Cf.of rfl (Nat.le_of_ble_eq_true rfl) (fun X K E F hk => ?_)
  have E : ow_E X RX8 cX8_copyFrom 2 (ow_rm 0 0 0) := E
  refine or_lv [(0, .ref t), (1, .ref o)] rfl ?_
  dsimp only [T_copyFrom] at hk
  refine or_aload_n E rfl dX8_copyFrom_0 ?_
  refine or_aload_n E rfl dX8_copyFrom_1 ?_
  refine ot_getI E fl_8_9 dX8_copyFrom_2 h_o rfl ?_
  refine ot_putI E fl_8_9 fw_8_0 dX8_copyFrom_5 h_t rfl ?_
  obtain ⟨I1, hI1⟩ : ∃ y_ : ow_I, y_ = ow_u I t 0 (I o 0) := ⟨_, rfl⟩
  replace hk := lt_k (P := fun r : ow_I => K none (S, r, V, z)) hI1 hk
  refine or_nmI hI1 ?_
  refine or_aload_n E rfl dX8_copyFrom_8 ?_
  refine or_aload_n E rfl dX8_copyFrom_9 ?_
  refine ot_getI E fl_8_15 dX8_copyFrom_10 h_o rfl ?_
  refine ot_putI E fl_8_15 fw_8_1 dX8_copyFrom_13 h_t rfl ?_
  obtain ⟨I2, hI2⟩ : ∃ y_ : ow_I, y_ = ow_u I1 t 1 (I1 o 1) := ⟨_, rfl⟩
  replace hk := lt_k (P := fun r : ow_I => K none (S, r, V, z)) hI2 hk
  refine or_nmI hI2 ?_
  refine or_aload_n E rfl dX8_copyFrom_16 ?_
  refine or_aload_n E rfl dX8_copyFrom_17 ?_
  refine ot_getI E fl_8_18 dX8_copyFrom_18 h_o rfl ?_
  refine ot_putI E fl_8_18 fw_8_2 dX8_copyFrom_21 h_t rfl ?_
  obtain ⟨I3, hI3⟩ : ∃ y_ : ow_I, y_ = ow_u I2 t 2 (I2 o 2) := ⟨_, rfl⟩
  replace hk := lt_k (P := fun r : ow_I => K none (S, r, V, z)) hI3 hk
  refine or_nmI hI3 ?_
  exact or_vret E F dX8_copyFrom_24 (Nat.le_refl _) (Nat.le_refl _) hk
def Y_begin (b : Nat) (p : Int32) (s : Int32) (f : Int32) (I : ow_I) : ow_I :=
  lt (ow_u I b 0 p) (fun (I1 : ow_I) => lt (ow_u I1 b 1 s) (fun (I2 : ow_I) => lt (ow_u I2 b 2 f) (fun (I3 : ow_I) => lt (ow_u I3 b 3 (nI 0)) (fun (I4 : ow_I) => lt (ow_u I4 b 4 (nI 0)) (fun (I5 : ow_I) => I5)))))
set_option maxRecDepth 100000 in
set_option maxHeartbeats 400000 in
theorem cY_begin {S : Nat → Option ow_Sh} {I : ow_I} {V : Nat → Nat → Value} {z : Nat} {b : Nat} {p : Int32} {s : Int32} {f : Int32} (h_b : by_S S b)  : ow_Cf yX2_begin cX2_begin 4 none 0 [.ref b, .int p, .int s, .int f] (S, I, V, z) none (S, Y_begin b p s f I, V, z) := by
  refine ow_Cf.of rfl (Nat.le_of_ble_eq_true rfl) (fun X K E F hk => ?_)
  have E : ow_E X RX2 cX2_begin 4 (ow_rm 0 0 0) := E
  refine or_lv [(0, .ref b), (1, .int p), (2, .int s), (3, .int f)] rfl ?_
  dsimp only [Y_begin] at hk
  refine or_aload_n E rfl dX2_begin_0 ?_
  refine or_iload_n E rfl dX2_begin_1 ?_
  refine ot_putI E fl_2_7 fw_2_0 dX2_begin_2 h_b rfl ?_
  obtain ⟨I1, hI1⟩ : ∃ y_ : ow_I, y_ = ow_u I b 0 p := ⟨_, rfl⟩
  replace hk := lt_k (P := fun r : ow_I => K none (S, r, V, z)) hI1 hk
  refine or_nmI hI1 ?_
  refine or_aload_n E rfl dX2_begin_5 ?_
  refine or_iload_n E rfl dX2_begin_6 ?_
  refine ot_putI E fl_2_13 fw_2_1 dX2_begin_7 h_b rfl ?_
  obtain ⟨I2, hI2⟩ : ∃ y_ : ow_I, y_ = ow_u I1 b 1 s := ⟨_, rfl⟩
  replace hk := lt_k (P := fun r : ow_I => K none (S, r, V, z)) hI2 hk
  refine or_nmI hI2 ?_
  refine or_aload_n E rfl dX2_begin_10 ?_
  refine or_iload_n E rfl dX2_begin_11 ?_
  refine ot_putI E fl_2_16 fw_2_2 dX2_begin_12 h_b rfl ?_
  obtain ⟨I3, hI3⟩ : ∃ y_ : ow_I, y_ = ow_u I2 b 2 f := ⟨_, rfl⟩
  replace hk := lt_k (P := fun r : ow_I => K none (S, r, V, z)) hI3 hk
  refine or_nmI hI3 ?_
  refine or_aload_n E rfl dX2_begin_15 ?_
  refine or_iconst (v := nI 0) E rfl dX2_begin_16 ?_
  refine ot_putI E fl_2_19 fw_2_3 dX2_begin_17 h_b rfl ?_
  obtain ⟨I4, hI4⟩ : ∃ y_ : ow_I, y_ = ow_u I3 b 3 (nI 0) := ⟨_, rfl⟩
  replace hk := lt_k (P := fun r : ow_I => K none (S, r, V, z)) hI4 hk
  refine or_nmI hI4 ?_
  refine or_aload_n E rfl dX2_begin_20 ?_
  refine or_iconst (v := nI 0) E rfl dX2_begin_21 ?_
  refine ot_putI E fl_2_22 fw_2_4 dX2_begin_22 h_b rfl ?_
  obtain ⟨I5, hI5⟩ : ∃ y_ : ow_I, y_ = ow_u I4 b 4 (nI 0) := ⟨_, rfl⟩
  replace hk := lt_k (P := fun r : ow_I => K none (S, r, V, z)) hI5 hk
  refine or_nmI hI5 ?_
  exact or_vret E F dX2_begin_25 (Nat.le_refl _) (Nat.le_refl _) hk
def Y_copyFrom (b : Nat) (o : Nat) (I : ow_I) : ow_I :=
  lt (ow_u I b 0 (I o 0)) (fun (I1 : ow_I) => lt (ow_u I1 b 1 (I1 o 1)) (fun (I2 : ow_I) => lt (ow_u I2 b 2 (I2 o 2)) (fun (I3 : ow_I) => lt (ow_u I3 b 3 (I3 o 3)) (fun (I4 : ow_I) => lt (ow_u I4 b 4 (I4 o 4)) (fun (I5 : ow_I) => I5)))))
set_option maxRecDepth 100000 in
set_option maxHeartbeats 400000 in
theorem cY_copyFrom {S : Nat → Option ow_Sh} {I : ow_I} {V : Nat → Nat → Value} {z : Nat} {b : Nat} {o : Nat} (h_b : by_S S b) (h_o : by_S S o)  : ow_Cf yX2_copyFrom cX2_copyFrom 2 none 0 [.ref b, .ref o] (S, I, V, z) none (S, Y_copyFrom b o I, V, z) := by
  refine ow_Cf.of rfl (Nat.le_of_ble_eq_true rfl) (fun X K E F hk => ?_)
  have E : ow_E X RX2 cX2_copyFrom 2 (ow_rm 0 0 0) := E
  refine or_lv [(0, .ref b), (1, .ref o)] rfl ?_
  dsimp only [Y_copyFrom] at hk
  refine or_aload_n E rfl dX2_copyFrom_0 ?_
  refine or_aload_n E rfl dX2_copyFrom_1 ?_
  refine ot_getI E fl_2_7 dX2_copyFrom_2 h_o rfl ?_
  refine ot_putI E fl_2_7 fw_2_0 dX2_copyFrom_5 h_b rfl ?_
  obtain ⟨I1, hI1⟩ : ∃ y_ : ow_I, y_ = ow_u I b 0 (I o 0) := ⟨_, rfl⟩
  replace hk := lt_k (P := fun r : ow_I => K none (S, r, V, z)) hI1 hk
  refine or_nmI hI1 ?_
  refine or_aload_n E rfl dX2_copyFrom_8 ?_
  refine or_aload_n E rfl dX2_copyFrom_9 ?_
  refine ot_getI E fl_2_13 dX2_copyFrom_10 h_o rfl ?_
  refine ot_putI E fl_2_13 fw_2_1 dX2_copyFrom_13 h_b rfl ?_
  obtain ⟨I2, hI2⟩ : ∃ y_ : ow_I, y_ = ow_u I1 b 1 (I1 o 1) := ⟨_, rfl⟩
  replace hk := lt_k (P := fun r : ow_I => K none (S, r, V, z)) hI2 hk
  refine or_nmI hI2 ?_
  refine or_aload_n E rfl dX2_copyFrom_16 ?_
  refine or_aload_n E rfl dX2_copyFrom_17 ?_
  refine ot_getI E fl_2_16 dX2_copyFrom_18 h_o rfl ?_
  refine ot_putI E fl_2_16 fw_2_2 dX2_copyFrom_21 h_b rfl ?_
  obtain ⟨I3, hI3⟩ : ∃ y_ : ow_I, y_ = ow_u I2 b 2 (I2 o 2) := ⟨_, rfl⟩
  replace hk := lt_k (P := fun r : ow_I => K none (S, r, V, z)) hI3 hk
  refine or_nmI hI3 ?_
  refine or_aload_n E rfl dX2_copyFrom_24 ?_
  refine or_aload_n E rfl dX2_copyFrom_25 ?_
  refine ot_getI E fl_2_19 dX2_copyFrom_26 h_o rfl ?_
  refine ot_putI E fl_2_19 fw_2_3 dX2_copyFrom_29 h_b rfl ?_
  obtain ⟨I4, hI4⟩ : ∃ y_ : ow_I, y_ = ow_u I3 b 3 (I3 o 3) := ⟨_, rfl⟩
  replace hk := lt_k (P := fun r : ow_I => K none (S, r, V, z)) hI4 hk
  refine or_nmI hI4 ?_
  refine or_aload_n E rfl dX2_copyFrom_32 ?_
  refine or_aload_n E rfl dX2_copyFrom_33 ?_
  refine ot_getI E fl_2_22 dX2_copyFrom_34 h_o rfl ?_
  refine ot_putI E fl_2_22 fw_2_4 dX2_copyFrom_37 h_b rfl ?_
  obtain ⟨I5, hI5⟩ : ∃ y_ : ow_I, y_ = ow_u I4 b 4 (I4 o 4) := ⟨_, rfl⟩
  replace hk := lt_k (P := fun r : ow_I => K none (S, r, V, z)) hI5 hk
  refine or_nmI hI5 ?_
  exact or_vret E F dX2_copyFrom_40 (Nat.le_refl _) (Nat.le_refl _) hk
def Y_valueOf (b : Nat) (k : Nat) (I : ow_I) : UInt64 :=
  if I b 1 = nI (1 + 0) then FP.ddiv (FP.i2d ((I b 2) * (I k 2))) ((4636737291354636288 : UInt64)) else if I b 1 = nI (1 + 1) then FP.ddiv (FP.i2d ((I b 2) * (I k 1))) ((4621819117588971520 : UInt64)) else if I b 1 = nI (1 + 2) then FP.ddiv (FP.i2d (((I b 2) * (I k 3)) * (I k 1))) ((4636737291354636288 : UInt64)) else if I b 1 = nI (1 + 3) then FP.ddiv (FP.i2d ((I b 2) * (I k 4))) ((4617315517961601024 : UInt64)) else FP.dconst0
set_option maxRecDepth 100000 in
set_option maxHeartbeats 400000 in
theorem cY_valueOf {S : Nat → Option ow_Sh} {I : ow_I} {V : Nat → Nat → Value} {z : Nat} {b : Nat} {k : Nat} (h_b : by_S S b) (h_k : br_S S k)  : ow_Cf yX2_valueOf cX2_valueOf 2 (some .double) 0 [.ref b, .ref k] (S, I, V, z) (some (.double (Y_valueOf b k I))) (S, I, V, z) := by
  refine ow_Cf.of rfl (Nat.le_of_ble_eq_true rfl) (fun X K E F hk => ?_)
  have E : ow_E X RX2 cX2_valueOf 2 (ow_rm 0 0 0) := E
  refine or_lv [(0, .ref b), (1, .ref k)] rfl ?_
  dsimp only [Y_valueOf] at hk
  refine or_aload_n E rfl dX2_valueOf_0 ?_
  refine ot_getI E fl_2_13 dX2_valueOf_1 h_b rfl ?_
  refine or_tab4 (lo := 1) 36 51 66 86 101 E dX2_valueOf_4 (by decide) rfl rfl rfl rfl rfl (fun q4_0 => ?_) (fun q4_0 q4_1 => ?_) (fun q4_0 q4_1 q4_2 => ?_) (fun q4_0 q4_1 q4_2 q4_3 => ?_) (fun q4_0 q4_1 q4_2 q4_3 => ?_)
  · replace hk := ite_p (P := fun r : UInt64 => K (some (.double (r))) (S, I, V, z)) q4_0 hk
    refine or_aload_n E rfl dX2_valueOf_36 ?_
    refine ot_getI E fl_2_16 dX2_valueOf_37 h_b rfl ?_
    refine or_aload_n E rfl dX2_valueOf_40 ?_
    refine ot_getI E fl_2_25 dX2_valueOf_41 h_k.1 rfl ?_
    refine or_imul E dX2_valueOf_44 ?_
    refine or_i2d E dX2_valueOf_45 ?_
    refine or_ldc2d (v := 4636737291354636288) E wd_1225 dX2_valueOf_46 ?_
    refine or_ddiv E (fp_i2d_div100 _) dX2_valueOf_49 ?_
    exact or_dret E F dX2_valueOf_50 (Nat.le_refl _) (Nat.le_refl _) hk
  · replace hk := ite_n (P := fun r : UInt64 => K (some (.double (r))) (S, I, V, z)) q4_0 hk; replace hk := ite_p (P := fun r : UInt64 => K (some (.double (r))) (S, I, V, z)) q4_1 hk
    refine or_aload_n E rfl dX2_valueOf_51 ?_
    refine ot_getI E fl_2_16 dX2_valueOf_52 h_b rfl ?_
    refine or_aload_n E rfl dX2_valueOf_55 ?_
    refine ot_getI E fl_2_32 dX2_valueOf_56 h_k.1 rfl ?_
    refine or_imul E dX2_valueOf_59 ?_
    refine or_i2d E dX2_valueOf_60 ?_
    refine or_ldc2d (v := 4621819117588971520) E wd_1226 dX2_valueOf_61 ?_
    refine or_ddiv E (fp_i2d_div10 _) dX2_valueOf_64 ?_
    exact or_dret E F dX2_valueOf_65 (Nat.le_refl _) (Nat.le_refl _) hk
  · replace hk := ite_n (P := fun r : UInt64 => K (some (.double (r))) (S, I, V, z)) q4_0 hk; replace hk := ite_n (P := fun r : UInt64 => K (some (.double (r))) (S, I, V, z)) q4_1 hk; replace hk := ite_p (P := fun r : UInt64 => K (some (.double (r))) (S, I, V, z)) q4_2 hk
    refine or_aload_n E rfl dX2_valueOf_66 ?_
    refine ot_getI E fl_2_16 dX2_valueOf_67 h_b rfl ?_
    refine or_aload_n E rfl dX2_valueOf_70 ?_
    refine ot_getI E fl_2_37 dX2_valueOf_71 h_k.1 rfl ?_
    refine or_imul E dX2_valueOf_74 ?_
    refine or_aload_n E rfl dX2_valueOf_75 ?_
    refine ot_getI E fl_2_32 dX2_valueOf_76 h_k.1 rfl ?_
    refine or_imul E dX2_valueOf_79 ?_
    refine or_i2d E dX2_valueOf_80 ?_
    refine or_ldc2d (v := 4636737291354636288) E wd_1225 dX2_valueOf_81 ?_
    refine or_ddiv E (fp_i2d_div100 _) dX2_valueOf_84 ?_
    exact or_dret E F dX2_valueOf_85 (Nat.le_refl _) (Nat.le_refl _) hk
  · replace hk := ite_n (P := fun r : UInt64 => K (some (.double (r))) (S, I, V, z)) q4_0 hk; replace hk := ite_n (P := fun r : UInt64 => K (some (.double (r))) (S, I, V, z)) q4_1 hk; replace hk := ite_n (P := fun r : UInt64 => K (some (.double (r))) (S, I, V, z)) q4_2 hk; replace hk := ite_p (P := fun r : UInt64 => K (some (.double (r))) (S, I, V, z)) q4_3 hk
    refine or_aload_n E rfl dX2_valueOf_86 ?_
    refine ot_getI E fl_2_16 dX2_valueOf_87 h_b rfl ?_
    refine or_aload_n E rfl dX2_valueOf_90 ?_
    refine ot_getI E fl_2_40 dX2_valueOf_91 h_k.1 rfl ?_
    refine or_imul E dX2_valueOf_94 ?_
    refine or_i2d E dX2_valueOf_95 ?_
    refine or_ldc2d (v := 4617315517961601024) E wd_1227 dX2_valueOf_96 ?_
    refine or_ddiv E (fp_i2d_div5 _) dX2_valueOf_99 ?_
    exact or_dret E F dX2_valueOf_100 (Nat.le_refl _) (Nat.le_refl _) hk
  · replace hk := ite_n (P := fun r : UInt64 => K (some (.double (r))) (S, I, V, z)) q4_0 hk; replace hk := ite_n (P := fun r : UInt64 => K (some (.double (r))) (S, I, V, z)) q4_1 hk; replace hk := ite_n (P := fun r : UInt64 => K (some (.double (r))) (S, I, V, z)) q4_2 hk; replace hk := ite_n (P := fun r : UInt64 => K (some (.double (r))) (S, I, V, z)) q4_3 hk
    refine or_dconst0 E dX2_valueOf_101 ?_
    exact or_dret E F dX2_valueOf_102 (Nat.le_refl _) (Nat.le_refl _) hk
def B_emptyOut (b : Nat) (I : ow_I) : ow_I :=
  lt (ow_u I b 1 (nI 0)) (fun (I1 : ow_I) => lt (ow_u I1 b 2 (nI 0)) (fun (I2 : ow_I) => lt (ow_u I2 b 3 (nI 0)) (fun (I3 : ow_I) => lt (ow_u I3 b 4 (nI 0)) (fun (I4 : ow_I) => I4))))
set_option maxRecDepth 100000 in
set_option maxHeartbeats 400000 in
theorem cB_emptyOut {S : Nat → Option ow_Sh} {I : ow_I} {V : Nat → Nat → Value} {z : Nat} {b : Nat} (h_b : br_S S b)  : ow_Cf yX1_emptyOut cX1_emptyOut 1 none 0 [.ref b] (S, I, V, z) none (S, B_emptyOut b I, V, z) := by
  refine ow_Cf.of rfl (Nat.le_of_ble_eq_true rfl) (fun X K E F hk => ?_)
  have E : ow_E X RX1 cX1_emptyOut 1 (ow_rm 0 0 0) := E
  refine or_lv [(0, .ref b)] rfl ?_
  dsimp only [B_emptyOut] at hk
  refine or_aload_n E rfl dX1_emptyOut_0 ?_
  refine or_iconst (v := nI 0) E rfl dX1_emptyOut_1 ?_
  refine ot_putI E fl_1_42 fw_1_1 dX1_emptyOut_2 h_b.1 rfl ?_
  obtain ⟨I1, hI1⟩ : ∃ y_ : ow_I, y_ = ow_u I b 1 (nI 0) := ⟨_, rfl⟩
  replace hk := lt_k (P := fun r : ow_I => K none (S, r, V, z)) hI1 hk
  refine or_nmI hI1 ?_
  refine or_aload_n E rfl dX1_emptyOut_5 ?_
  refine or_iconst (v := nI 0) E rfl dX1_emptyOut_6 ?_
  refine ot_putI E fl_1_51 fw_1_2 dX1_emptyOut_7 h_b.1 rfl ?_
  obtain ⟨I2, hI2⟩ : ∃ y_ : ow_I, y_ = ow_u I1 b 2 (nI 0) := ⟨_, rfl⟩
  replace hk := lt_k (P := fun r : ow_I => K none (S, r, V, z)) hI2 hk
  refine or_nmI hI2 ?_
  refine or_aload_n E rfl dX1_emptyOut_10 ?_
  refine or_iconst (v := nI 0) E rfl dX1_emptyOut_11 ?_
  refine ot_putI E fl_1_54 fw_1_3 dX1_emptyOut_12 h_b.1 rfl ?_
  obtain ⟨I3, hI3⟩ : ∃ y_ : ow_I, y_ = ow_u I2 b 3 (nI 0) := ⟨_, rfl⟩
  replace hk := lt_k (P := fun r : ow_I => K none (S, r, V, z)) hI3 hk
  refine or_nmI hI3 ?_
  refine or_aload_n E rfl dX1_emptyOut_15 ?_
  refine or_iconst (v := nI 0) E rfl dX1_emptyOut_16 ?_
  refine ot_putI E fl_1_57 fw_1_4 dX1_emptyOut_17 h_b.1 rfl ?_
  obtain ⟨I4, hI4⟩ : ∃ y_ : ow_I, y_ = ow_u I3 b 4 (nI 0) := ⟨_, rfl⟩
  replace hk := lt_k (P := fun r : ow_I => K none (S, r, V, z)) hI4 hk
  refine or_nmI hI4 ?_
  exact or_vret E F dX1_emptyOut_20 (Nat.le_refl _) (Nat.le_refl _) hk
def B_beginWaiting (b : Nat) (r : Int32) (I : ow_I) : ow_I :=
  lt (ow_u I b 5 r) (fun (I1 : ow_I) => lt (ow_u I1 b 6 (nI 0)) (fun (I2 : ow_I) => lt (ow_u I2 b 7 (nI 0)) (fun (I3 : ow_I) => lt (ow_u I3 b 8 ((-1))) (fun (I4 : ow_I) => lt (ow_u I4 b 9 ((-1))) (fun (I5 : ow_I) => I5)))))
set_option maxRecDepth 100000 in
set_option maxHeartbeats 400000 in
theorem cB_beginWaiting {S : Nat → Option ow_Sh} {I : ow_I} {V : Nat → Nat → Value} {z : Nat} {b : Nat} {r : Int32} (h_b : br_S S b)  : ow_Cf yX1_beginWaiting cX1_beginWaiting 2 none 0 [.ref b, .int r] (S, I, V, z) none (S, B_beginWaiting b r I, V, z) := by
  refine ow_Cf.of rfl (Nat.le_of_ble_eq_true rfl) (fun X K E F hk => ?_)
  have E : ow_E X RX1 cX1_beginWaiting 2 (ow_rm 0 0 0) := E
  refine or_lv [(0, .ref b), (1, .int r)] rfl ?_
  dsimp only [B_beginWaiting] at hk
  refine or_aload_n E rfl dX1_beginWaiting_0 ?_
  refine or_iload_n E rfl dX1_beginWaiting_1 ?_
  refine ot_putI E fl_1_26 fw_1_5 dX1_beginWaiting_2 h_b.1 rfl ?_
  obtain ⟨I1, hI1⟩ : ∃ y_ : ow_I, y_ = ow_u I b 5 r := ⟨_, rfl⟩
  replace hk := lt_k (P := fun r : ow_I => K none (S, r, V, z)) hI1 hk
  refine or_nmI hI1 ?_
  refine or_aload_n E rfl dX1_beginWaiting_5 ?_
  refine or_iconst (v := nI 0) E rfl dX1_beginWaiting_6 ?_
  refine ot_putI E fl_1_30 fw_1_6 dX1_beginWaiting_7 h_b.1 rfl ?_
  obtain ⟨I2, hI2⟩ : ∃ y_ : ow_I, y_ = ow_u I1 b 6 (nI 0) := ⟨_, rfl⟩
  replace hk := lt_k (P := fun r : ow_I => K none (S, r, V, z)) hI2 hk
  refine or_nmI hI2 ?_
  refine or_aload_n E rfl dX1_beginWaiting_10 ?_
  refine or_iconst (v := nI 0) E rfl dX1_beginWaiting_11 ?_
  refine ot_putI E fl_1_33 fw_1_7 dX1_beginWaiting_12 h_b.1 rfl ?_
  obtain ⟨I3, hI3⟩ : ∃ y_ : ow_I, y_ = ow_u I2 b 7 (nI 0) := ⟨_, rfl⟩
  replace hk := lt_k (P := fun r : ow_I => K none (S, r, V, z)) hI3 hk
  refine or_nmI hI3 ?_
  refine or_aload_n E rfl dX1_beginWaiting_15 ?_
  refine or_iconst (v := -1) E rfl dX1_beginWaiting_16 ?_
  refine ot_putI E fl_1_36 fw_1_8 dX1_beginWaiting_17 h_b.1 rfl ?_
  obtain ⟨I4, hI4⟩ : ∃ y_ : ow_I, y_ = ow_u I3 b 8 ((-1)) := ⟨_, rfl⟩
  replace hk := lt_k (P := fun r : ow_I => K none (S, r, V, z)) hI4 hk
  refine or_nmI hI4 ?_
  refine or_aload_n E rfl dX1_beginWaiting_20 ?_
  refine or_iconst (v := -1) E rfl dX1_beginWaiting_21 ?_
  refine ot_putI E fl_1_39 fw_1_9 dX1_beginWaiting_22 h_b.1 rfl ?_
  obtain ⟨I5, hI5⟩ : ∃ y_ : ow_I, y_ = ow_u I4 b 9 ((-1)) := ⟨_, rfl⟩
  replace hk := lt_k (P := fun r : ow_I => K none (S, r, V, z)) hI5 hk
  refine or_nmI hI5 ?_
  exact or_vret E F dX1_beginWaiting_25 (Nat.le_refl _) (Nat.le_refl _) hk
def B_addEel (b : Nat) (x : Int32) (I : ow_I) : ow_I :=
  if tn (I b 1) < 9 then lt (ow_u I (b + 1) (tn (I b 1)) x) (fun (I1 : ow_I) => lt (ow_u I1 b 1 (I1 b 1 + (nI 1))) (fun (I2 : ow_I) => lt (ow_u I2 b 2 (I2 b 2 + x)) (fun (I3 : ow_I) => lt (ow_u I3 b 3 (i_max (I3 b 3) x)) (fun (I4 : ow_I) => if x < nI 60 then lt (ow_u I4 b 4 (I4 b 4 + (nI 0))) (fun (I5 : ow_I) => I5) else lt (ow_u I4 b 4 (I4 b 4 + (nI 1))) (fun (I6 : ow_I) => I6))))) else I
set_option maxRecDepth 100000 in
set_option maxHeartbeats 400000 in
theorem cB_addEel {S : Nat → Option ow_Sh} {I : ow_I} {V : Nat → Nat → Value} {z : Nat} {b : Nat} {x : Int32} (h_b : br_S S b) (he : 0 ≤ I b 1) (heb : tn (I b 1) ≤ 9) : ow_Cf yX1_addEel cX1_addEel 2 none 1 [.ref b, .int x] (S, I, V, z) none (S, B_addEel b x I, V, z) := by
  refine ow_Cf.of rfl (Nat.le_of_ble_eq_true rfl) (fun X K E F hk => ?_)
  have E : ow_E X RX1 cX1_addEel 2 (ow_rm 1 0 0) := E
  refine or_lv [(0, .ref b), (1, .int x)] rfl ?_
  dsimp only [B_addEel] at hk
  refine or_aload_n E rfl dX1_addEel_0 ?_
  refine ot_getI E fl_1_42 dX1_addEel_1 h_b.1 rfl ?_
  refine or_top (nI_tn he).symm ?_
  refine or_bipush (v := nI 9) E rfl dX1_addEel_4 ?_
  refine or_icmp_ltN 10 E dX1_addEel_6 rfl (by omega) (by omega) (fun q6 => ?_) (fun q6 => ?_)
  · replace hk := ite_p (P := fun r : ow_I => K none (S, r, V, z)) q6 hk
    refine or_aload_n E rfl dX1_addEel_10 ?_
    refine ot_getC E fl_1_9 dX1_addEel_11 h_b.1 rfl ?_
    refine or_aload_n E rfl dX1_addEel_14 ?_
    refine ot_getI E fl_1_42 dX1_addEel_15 h_b.1 rfl ?_
    refine or_top (nI_tn he).symm ?_
    refine or_iload_n E rfl dX1_addEel_18 ?_
    refine ot_iast (j := tn (I b 1)) E dX1_addEel_19 h_b.2 rfl rfl (by omega) (Nat.le_of_ble_eq_true rfl) ?_
    obtain ⟨I1, hI1⟩ : ∃ y_ : ow_I, y_ = ow_u I (b + 1) (tn (I b 1)) x := ⟨_, rfl⟩
    replace hk := lt_k (P := fun r : ow_I => K none (S, r, V, z)) hI1 hk
    refine or_nmI hI1 ?_
    refine or_aload_n E rfl dX1_addEel_20 ?_
    refine or_dup E rfl dX1_addEel_21 ?_
    refine ot_getI E fl_1_42 dX1_addEel_22 h_b.1 rfl ?_
    refine or_iconst (v := nI 1) E rfl dX1_addEel_25 ?_
    refine or_iadd E dX1_addEel_26 ?_
    refine ot_putI E fl_1_42 fw_1_1 dX1_addEel_27 h_b.1 rfl ?_
    obtain ⟨I2, hI2⟩ : ∃ y_ : ow_I, y_ = ow_u I1 b 1 (I1 b 1 + (nI 1)) := ⟨_, rfl⟩
    replace hk := lt_k (P := fun r : ow_I => K none (S, r, V, z)) hI2 hk
    refine or_nmI hI2 ?_
    refine or_aload_n E rfl dX1_addEel_30 ?_
    refine or_dup E rfl dX1_addEel_31 ?_
    refine ot_getI E fl_1_51 dX1_addEel_32 h_b.1 rfl ?_
    refine or_iload_n E rfl dX1_addEel_35 ?_
    refine or_iadd E dX1_addEel_36 ?_
    refine ot_putI E fl_1_51 fw_1_2 dX1_addEel_37 h_b.1 rfl ?_
    obtain ⟨I3, hI3⟩ : ∃ y_ : ow_I, y_ = ow_u I2 b 2 (I2 b 2 + x) := ⟨_, rfl⟩
    replace hk := lt_k (P := fun r : ow_I => K none (S, r, V, z)) hI3 hk
    refine or_nmI hI3 ?_
    refine or_aload_n E rfl dX1_addEel_40 ?_
    refine or_aload_n E rfl dX1_addEel_41 ?_
    refine ot_getI E fl_1_54 dX1_addEel_42 h_b.1 rfl ?_
    refine or_iload_n E rfl dX1_addEel_45 ?_
    refine or_mmax E lm_1_60 dX1_addEel_46 (Nat.le_of_ble_eq_true rfl) ⟨Nat.le_refl _, Nat.le_refl _⟩ (Nat.le_of_ble_eq_true rfl) ?_
    refine ot_putI E fl_1_54 fw_1_3 dX1_addEel_49 h_b.1 rfl ?_
    obtain ⟨I4, hI4⟩ : ∃ y_ : ow_I, y_ = ow_u I3 b 3 (i_max (I3 b 3) x) := ⟨_, rfl⟩
    replace hk := lt_k (P := fun r : ow_I => K none (S, r, V, z)) hI4 hk
    refine or_nmI hI4 ?_
    refine or_aload_n E rfl dX1_addEel_52 ?_
    refine or_dup E rfl dX1_addEel_53 ?_
    refine ot_getI E fl_1_57 dX1_addEel_54 h_b.1 rfl ?_
    refine or_iload_n E rfl dX1_addEel_57 ?_
    refine or_bipush (v := nI 60) E rfl dX1_addEel_58 ?_
    refine or_icmp_lt 67 E dX1_addEel_60 rfl (fun q60 => ?_) (fun q60 => ?_)
    · replace hk := ite_p (P := fun r : ow_I => K none (S, r, V, z)) q60 hk
      refine or_iconst (v := nI 0) E rfl dX1_addEel_67 ?_
      refine or_iadd E dX1_addEel_68 ?_
      refine ot_putI E fl_1_57 fw_1_4 dX1_addEel_69 h_b.1 rfl ?_
      obtain ⟨I5, hI5⟩ : ∃ y_ : ow_I, y_ = ow_u I4 b 4 (I4 b 4 + (nI 0)) := ⟨_, rfl⟩
      replace hk := lt_k (P := fun r : ow_I => K none (S, r, V, z)) hI5 hk
      refine or_nmI hI5 ?_
      exact or_vret E F dX1_addEel_72 (Nat.le_refl _) (Nat.le_refl _) hk
    · replace hk := ite_n (P := fun r : ow_I => K none (S, r, V, z)) q60 hk
      refine or_iconst (v := nI 1) E rfl dX1_addEel_63 ?_
      refine or_goto 68 E dX1_addEel_64 rfl ?_
      refine or_iadd E dX1_addEel_68 ?_
      refine ot_putI E fl_1_57 fw_1_4 dX1_addEel_69 h_b.1 rfl ?_
      obtain ⟨I6, hI6⟩ : ∃ y_ : ow_I, y_ = ow_u I4 b 4 (I4 b 4 + (nI 1)) := ⟨_, rfl⟩
      replace hk := lt_k (P := fun r : ow_I => K none (S, r, V, z)) hI6 hk
      refine or_nmI hI6 ?_
      exact or_vret E F dX1_addEel_72 (Nat.le_refl _) (Nat.le_refl _) hk
  · replace hk := ite_n (P := fun r : ow_I => K none (S, r, V, z)) q6 hk
    exact or_vret E F dX1_addEel_9 (Nat.le_refl _) (Nat.le_refl _) hk
def B_copyFrom (b : Nat) (o : Nat) (I : ow_I) : ow_I :=
  lt (ow_cp I (o + 1) (b + 1) 9) (fun (I1 : ow_I) => lt (ow_u I1 b 1 (I1 o 1)) (fun (I2 : ow_I) => lt (ow_u I2 b 2 (I2 o 2)) (fun (I3 : ow_I) => lt (ow_u I3 b 3 (I3 o 3)) (fun (I4 : ow_I) => lt (ow_u I4 b 4 (I4 o 4)) (fun (I5 : ow_I) => lt (ow_u I5 b 5 (I5 o 5)) (fun (I6 : ow_I) => lt (ow_u I6 b 6 (I6 o 6)) (fun (I7 : ow_I) => lt (ow_u I7 b 7 (I7 o 7)) (fun (I8 : ow_I) => lt (ow_u I8 b 8 (I8 o 8)) (fun (I9 : ow_I) => lt (ow_u I9 b 9 (I9 o 9)) (fun (I10 : ow_I) => I10))))))))))
set_option maxRecDepth 100000 in
set_option maxHeartbeats 400000 in
theorem cB_copyFrom {S : Nat → Option ow_Sh} {I : ow_I} {V : Nat → Nat → Value} {z : Nat} {b : Nat} {o : Nat} (h_b : br_S S b) (h_o : br_S S o)  : ow_Cf yX1_copyFrom cX1_copyFrom 2 none 1 [.ref b, .ref o] (S, I, V, z) none (S, B_copyFrom b o I, V, z) := by
  refine ow_Cf.of rfl (Nat.le_of_ble_eq_true rfl) (fun X K E F hk => ?_)
  have E : ow_E X RX1 cX1_copyFrom 2 (ow_rm 1 0 0) := E
  refine or_lv [(0, .ref b), (1, .ref o)] rfl ?_
  dsimp only [B_copyFrom] at hk
  refine or_aload_n E rfl dX1_copyFrom_0 ?_
  refine ot_getC E fl_1_9 dX1_copyFrom_1 h_o.1 rfl ?_
  refine or_iconst (v := nI 0) E rfl dX1_copyFrom_4 ?_
  refine or_aload_n E rfl dX1_copyFrom_5 ?_
  refine ot_getC E fl_1_9 dX1_copyFrom_6 h_b.1 rfl ?_
  refine or_iconst (v := nI 0) E rfl dX1_copyFrom_9 ?_
  refine or_bipush (v := nI 9) E rfl dX1_copyFrom_10 ?_
  refine or_acopy (n := 9) E lc_1_45 dX1_copyFrom_12 h_o.2 h_b.2 (fun _ _ => rfl) (fun _ _ => rfl) (by decide) (by decide) ⟨Nat.le_of_ble_eq_true rfl, Nat.le_of_ble_eq_true rfl⟩ (by decide) ?_
  obtain ⟨I1, hI1⟩ : ∃ y_ : ow_I, y_ = ow_cp I (o + 1) (b + 1) 9 := ⟨_, rfl⟩
  replace hk := lt_k (P := fun r : ow_I => K none (S, r, V, z)) hI1 hk
  refine or_nmI hI1 ?_
  refine or_aload_n E rfl dX1_copyFrom_15 ?_
  refine or_aload_n E rfl dX1_copyFrom_16 ?_
  refine ot_getI E fl_1_42 dX1_copyFrom_17 h_o.1 rfl ?_
  refine ot_putI E fl_1_42 fw_1_1 dX1_copyFrom_20 h_b.1 rfl ?_
  obtain ⟨I2, hI2⟩ : ∃ y_ : ow_I, y_ = ow_u I1 b 1 (I1 o 1) := ⟨_, rfl⟩
  replace hk := lt_k (P := fun r : ow_I => K none (S, r, V, z)) hI2 hk
  refine or_nmI hI2 ?_
  refine or_aload_n E rfl dX1_copyFrom_23 ?_
  refine or_aload_n E rfl dX1_copyFrom_24 ?_
  refine ot_getI E fl_1_51 dX1_copyFrom_25 h_o.1 rfl ?_
  refine ot_putI E fl_1_51 fw_1_2 dX1_copyFrom_28 h_b.1 rfl ?_
  obtain ⟨I3, hI3⟩ : ∃ y_ : ow_I, y_ = ow_u I2 b 2 (I2 o 2) := ⟨_, rfl⟩
  replace hk := lt_k (P := fun r : ow_I => K none (S, r, V, z)) hI3 hk
  refine or_nmI hI3 ?_
  refine or_aload_n E rfl dX1_copyFrom_31 ?_
  refine or_aload_n E rfl dX1_copyFrom_32 ?_
  refine ot_getI E fl_1_54 dX1_copyFrom_33 h_o.1 rfl ?_
  refine ot_putI E fl_1_54 fw_1_3 dX1_copyFrom_36 h_b.1 rfl ?_
  obtain ⟨I4, hI4⟩ : ∃ y_ : ow_I, y_ = ow_u I3 b 3 (I3 o 3) := ⟨_, rfl⟩
  replace hk := lt_k (P := fun r : ow_I => K none (S, r, V, z)) hI4 hk
  refine or_nmI hI4 ?_
  refine or_aload_n E rfl dX1_copyFrom_39 ?_
  refine or_aload_n E rfl dX1_copyFrom_40 ?_
  refine ot_getI E fl_1_57 dX1_copyFrom_41 h_o.1 rfl ?_
  refine ot_putI E fl_1_57 fw_1_4 dX1_copyFrom_44 h_b.1 rfl ?_
  obtain ⟨I5, hI5⟩ : ∃ y_ : ow_I, y_ = ow_u I4 b 4 (I4 o 4) := ⟨_, rfl⟩
  replace hk := lt_k (P := fun r : ow_I => K none (S, r, V, z)) hI5 hk
  refine or_nmI hI5 ?_
  refine or_aload_n E rfl dX1_copyFrom_47 ?_
  refine or_aload_n E rfl dX1_copyFrom_48 ?_
  refine ot_getI E fl_1_26 dX1_copyFrom_49 h_o.1 rfl ?_
  refine ot_putI E fl_1_26 fw_1_5 dX1_copyFrom_52 h_b.1 rfl ?_
  obtain ⟨I6, hI6⟩ : ∃ y_ : ow_I, y_ = ow_u I5 b 5 (I5 o 5) := ⟨_, rfl⟩
  replace hk := lt_k (P := fun r : ow_I => K none (S, r, V, z)) hI6 hk
  refine or_nmI hI6 ?_
  refine or_aload_n E rfl dX1_copyFrom_55 ?_
  refine or_aload_n E rfl dX1_copyFrom_56 ?_
  refine ot_getI E fl_1_30 dX1_copyFrom_57 h_o.1 rfl ?_
  refine ot_putI E fl_1_30 fw_1_6 dX1_copyFrom_60 h_b.1 rfl ?_
  obtain ⟨I7, hI7⟩ : ∃ y_ : ow_I, y_ = ow_u I6 b 6 (I6 o 6) := ⟨_, rfl⟩
  replace hk := lt_k (P := fun r : ow_I => K none (S, r, V, z)) hI7 hk
  refine or_nmI hI7 ?_
  refine or_aload_n E rfl dX1_copyFrom_63 ?_
  refine or_aload_n E rfl dX1_copyFrom_64 ?_
  refine ot_getI E fl_1_33 dX1_copyFrom_65 h_o.1 rfl ?_
  refine ot_putI E fl_1_33 fw_1_7 dX1_copyFrom_68 h_b.1 rfl ?_
  obtain ⟨I8, hI8⟩ : ∃ y_ : ow_I, y_ = ow_u I7 b 7 (I7 o 7) := ⟨_, rfl⟩
  replace hk := lt_k (P := fun r : ow_I => K none (S, r, V, z)) hI8 hk
  refine or_nmI hI8 ?_
  refine or_aload_n E rfl dX1_copyFrom_71 ?_
  refine or_aload_n E rfl dX1_copyFrom_72 ?_
  refine ot_getI E fl_1_36 dX1_copyFrom_73 h_o.1 rfl ?_
  refine ot_putI E fl_1_36 fw_1_8 dX1_copyFrom_76 h_b.1 rfl ?_
  obtain ⟨I9, hI9⟩ : ∃ y_ : ow_I, y_ = ow_u I8 b 8 (I8 o 8) := ⟨_, rfl⟩
  replace hk := lt_k (P := fun r : ow_I => K none (S, r, V, z)) hI9 hk
  refine or_nmI hI9 ?_
  refine or_aload_n E rfl dX1_copyFrom_79 ?_
  refine or_aload_n E rfl dX1_copyFrom_80 ?_
  refine ot_getI E fl_1_39 dX1_copyFrom_81 h_o.1 rfl ?_
  refine ot_putI E fl_1_39 fw_1_9 dX1_copyFrom_84 h_b.1 rfl ?_
  obtain ⟨I10, hI10⟩ : ∃ y_ : ow_I, y_ = ow_u I9 b 9 (I9 o 9) := ⟨_, rfl⟩
  replace hk := lt_k (P := fun r : ow_I => K none (S, r, V, z)) hI10 hk
  refine or_nmI hI10 ?_
  exact or_vret E F dX1_copyFrom_87 (Nat.le_refl _) (Nat.le_refl _) hk
