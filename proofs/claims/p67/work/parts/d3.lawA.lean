abbrev RX120 : String := "LowWaterAuctionLaw"
def m4_S (S : Nat → Option ow_Sh) (m : Nat) : Prop := S m = some (.inr (.int, 4, ow_n))
theorem pk_and4095 (x : Int32) : ∃ v : Nat, v ≤ 4095 ∧ x &&& nI 4095 = nI v := by
  refine ⟨x.toBitVec.toNat % 4096, by omega, ?_⟩
  apply Int32.toBitVec_inj.mp
  rw [Int32.toBitVec_and]
  apply BitVec.eq_of_toNat_eq
  rw [BitVec.toNat_and]
  have e1 : (nI 4095).toBitVec.toNat = 2 ^ 12 - 1 := by decide
  rw [e1, Nat.and_two_pow_sub_one_eq_mod]
  show _ = (Int32.ofNat (x.toBitVec.toNat % 4096)).toBitVec.toNat
  rw [Int32.toBitVec_ofNat', BitVec.toNat_ofNat]
  omega
set_option maxRecDepth 100000 in
set_option maxHeartbeats 400000 in
theorem tL_pick {Z : Nat → Nat} {S : Nat → Option ow_Sh} {I : ow_I} {V : Nat → Nat → Value} {z k n : Nat} (hk0 : k < 100000) (hn0 : 0 < n) (hn : n < 100000) : ow_Cx Z yL_pick cL_pick 3 (some .int) 0 0 0 [.ref (Z 34), .int (nI k), .int (nI n)] (S, I, V, z) (ox_s S V z 0 (some (.int (nI (pkf Z k n)))) I) := by
  refine ow_Cx.off rfl (Nat.le_of_ble_eq_true rfl) (fun X K E G F hk => ?_)
  have E : ow_E X RX120 cL_pick 3 (ow_rm 0 0 0) := E
  have h260 := og_9 G
  refine or_lv [(0, .ref (Z 34)), (1, .int (nI k)), (2, .int (nI n))] rfl ?_
  refine or_aload_n E rfl dL_pick_0 ?_
  refine or_glen E (og_8 G) dL_pick_1 ?_
  by_cases hz : Z 35 = 0
  · refine or_if_neN 11 E dL_pick_2 rfl (by omega) (fun q => absurd hz q) (fun _ => ?_)
    refine or_iload_n E rfl dL_pick_5 ?_
    refine or_iload_n E rfl dL_pick_6 ?_
    refine or_iremN E dL_pick_7 (by omega) hn0 (by omega) ?_
    refine or_goto 33 E dL_pick_8 rfl ?_
    exact or_xr E F (fun X' E' F' => or_iret E' F' dL_pick_33 (Nat.le_of_ble_eq_true rfl) (Nat.le_of_ble_eq_true rfl) (by have h9 := hk.1 rfl; unfold pkf at h9; rw [if_pos hz] at h9; exact h9))
  · refine or_if_neN 11 E dL_pick_2 rfl (by omega) (fun _ => ?_) (fun q => absurd q hz)
    have h36 := Nat.mod_lt k (show 0 < Z 35 by omega)
    have hv : ∃ v : Nat, v ≤ 4095 ∧ (nI (Z (100 + k % Z 35))) >>> (nI (k / Z 35 % 9 * 3) &&& 31) &&& nI 4095 = nI v := pk_and4095 _
    obtain ⟨v, hv1, hv2⟩ := hv
    refine or_aload_n E rfl dL_pick_11 ?_
    refine or_iload_n E rfl dL_pick_12 ?_
    refine or_aload_n E rfl dL_pick_13 ?_
    refine or_glen E (og_8 G) dL_pick_14 ?_
    refine or_iremN E dL_pick_15 (by omega) (by omega) (by omega) ?_
    refine or_gia (j := k % Z 35) E (og_8 G) h36 (by omega) dL_pick_16 ?_
    refine or_iload_n E rfl dL_pick_17 ?_
    refine or_aload_n E rfl dL_pick_18 ?_
    refine or_glen E (og_8 G) dL_pick_19 ?_
    refine or_idivN E dL_pick_20 (by omega) (by omega) (by omega) ?_
    refine or_bipush (v := nI 9) E rfl dL_pick_21 ?_
    refine or_iremN E dL_pick_23 (Nat.lt_of_le_of_lt (Nat.div_le_self _ _) (by omega)) (by decide) (by decide) ?_
    refine or_iconst (v := nI 3) E rfl dL_pick_24 ?_
    refine or_imulN E dL_pick_25 ?_
    refine or_ishr E dL_pick_26 ?_
    refine or_sipush (v := nI 4095) E rfl dL_pick_27 ?_
    refine or_iand E dL_pick_30 ?_
    refine or_top (y := nI v) hv2 ?_
    refine or_iload_n E rfl dL_pick_31 ?_
    refine or_iremN E dL_pick_32 (by omega) hn0 (by omega) ?_
    exact or_xr E F (fun X' E' F' => or_iret E' F' dL_pick_33 (Nat.le_of_ble_eq_true rfl) (Nat.le_of_ble_eq_true rfl) (by have h9 := hk.1 rfl; unfold pkf at h9; rw [if_neg hz, hv2, tn_nI (by omega)] at h9; exact h9))
