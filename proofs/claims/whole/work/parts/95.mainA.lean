/-! THE CLASS ITSELF: its cells; its methods (laid by wip/whole/class14.py) -/
def au_k (x : Nat) : Nat → Option (Option Value) := fun k => match k with
  | 0 => some (some (.ref (x + 1)))
  | 1 => some (some (.ref (x + 52)))
  | 2 => some (some (.ref (x + 103)))
  | 3 => some (some (.ref (x + 513)))
  | 4 => some (some (.ref (x + 514)))
  | 5 => some (some (.ref (x + 515)))
  | 6 => some (some (.ref (x + 561)))
  | 7 => some (some (.ref (x + 562)))
  | _ => none
def au_sn (x : Nat) : Nat → Option (Option Value) := fun j => some (some (.ref (x + 564 + 51 * j)))
def au_S (S : Nat → Option ow_Sh) (x : Nat) : Prop := S x = some (.inl (10, au_k x)) ∧ mk_S S (x + 1) ∧ mk_S S (x + 52) ∧ hs_S S (x + 103) ∧ S (x + 513) = some (.inr (.object "LowWaterAuction$Market", 2, au_sn x)) ∧ S (x + 514) = some (.inr (.boolean, 2, ow_n)) ∧ ps_S S (x + 515) ∧ i9_S S (x + 561) ∧ (∀ i, i < 2 → mk_S S (x + 564 + 51 * i))
theorem mk_br2 {S : Nat → Option ow_Sh} {a i : Nat} (h : mk_S S a) (hi : i < 20) : br_S S (a + 11 + 2 * i) := h.2.2.2.2.2.2 i hi
theorem mk_by2 {S : Nat → Option ow_Sh} {a i : Nat} (h : mk_S S a) (hi : i < 6) : by_S S (a + 5 + i) := h.2.2.2.2.2.1 i hi
theorem fl_10_10 : ow_fl RX10 10 10 0 := ⟨_, rfl, by decide, ow_T_in 553 (by decide +kernel) (by decide +kernel), ow_ok10⟩
theorem lk_10_351 : ow_lv RX10 351 yX6_hasBarrel cX6_hasBarrel 2 (some .boolean) 1 := ⟨ow_T_in 1314 (by decide +kernel) (by decide +kernel), ow_T_in 1231 (by decide +kernel) (by decide +kernel), ow_T_in 1232 (by decide +kernel) (by decide +kernel), ow_T_in 2 (by decide +kernel) (by decide +kernel), ow_T_in 1233 (by decide +kernel) (by decide +kernel), ⟨by decide +kernel, by decide +kernel, by decide +kernel⟩⟩
theorem lk_10_356 : ow_lv RX10 356 yX6_hasBuyer cX6_hasBuyer 2 (some .boolean) 1 := ⟨ow_T_in 1263 (by decide +kernel) (by decide +kernel), ow_T_in 673 (by decide +kernel) (by decide +kernel), ow_T_in 674 (by decide +kernel) (by decide +kernel), ow_T_in 2 (by decide +kernel) (by decide +kernel), ow_T_in 675 (by decide +kernel) (by decide +kernel), ⟨by decide +kernel, by decide +kernel, by decide +kernel⟩⟩
theorem tw_10_72_76 : ox_tw RX10 72 76 2 ["java/lang/RuntimeException", "java/lang/Exception"] := ⟨ow_T_in 1067 (by decide +kernel) (by decide +kernel), ow_T_in 23 (by decide +kernel) (by decide +kernel), ow_T_ins [20, 906, 915, 922, 925, 927, 907, 908, 41, 42, 909, 914, 923, 948, 896, 949, 898, 950, 900, 910, 912, 902, 944, 945, 947, 902, 1078, 1079, 1080, 938, 938, 939, 940, 941, 941, 942, 943, 944, 1077, 1068, 1070, 918, 1071, 1072, 1073, 1074, 905, 904, 1075] (by decide +kernel) (by decide +kernel), by decide +kernel, by decide +kernel, by decide +kernel, by decide +kernel, by decide +kernel, by decide⟩
theorem tw_10_92_96 : ox_tw RX10 92 96 1 ["java/lang/RuntimeException", "java/lang/Exception"] := ⟨ow_T_in 1098 (by decide +kernel) (by decide +kernel), ow_T_in 24 (by decide +kernel) (by decide +kernel), ow_T_ins [20, 906, 915, 922, 925, 927, 907, 908, 41, 42, 909, 914, 923, 948, 896, 949, 898, 950, 900, 910, 912, 902, 944, 945, 947, 902, 935, 936, 937, 938, 938, 939, 940, 941, 941, 942, 943, 944, 1100, 885, 893, 894, 895, 897, 899, 901, 905, 904, 903] (by decide +kernel) (by decide +kernel), by decide +kernel, by decide +kernel, by decide +kernel, by decide +kernel, by decide +kernel, by decide⟩
theorem tw_10_269_273 : ox_tw RX10 269 273 3 ["java/lang/RuntimeException", "java/lang/Exception"] := ⟨ow_T_in 1264 (by decide +kernel) (by decide +kernel), ow_T_in 27 (by decide +kernel) (by decide +kernel), ow_T_ins [20, 906, 915, 922, 925, 927, 907, 908, 41, 42, 909, 914, 923, 948, 896, 949, 898, 950, 900, 910, 912, 902, 944, 945, 947, 902, 981, 982, 983, 938, 938, 939, 940, 941, 941, 942, 943, 944, 1274, 1265, 1267, 919, 1268, 1269, 1270, 1271, 905, 904, 1272] (by decide +kernel) (by decide +kernel), by decide +kernel, by decide +kernel, by decide +kernel, by decide +kernel, by decide +kernel, by decide⟩
def A_requireRange (v : Int32) (l : Int32) (m : Int32) (I : ow_I) : Nat :=
  if v < l then 1 else if v ≤ m then 0 else 1
set_option maxRecDepth 100000 in
set_option maxHeartbeats 400000 in
theorem cA_requireRange {Z : Nat → Nat} {S : Nat → Option ow_Sh} {I : ow_I} {V : Nat → Nat → Value} {z : Nat} {v : Int32} {l : Int32} {m : Int32}   : ow_Cx Z yX10_requireRange cX10_requireRange 3 none 9 1 6 [.int v, .int l, .int m] (S, I, V, z) (ox_s S V z (A_requireRange v l m I) none I) := by
  refine ow_Cx.off rfl (Nat.le_of_ble_eq_true rfl) (fun X K E G F hk => ?_)
  have E : ow_E X RX10 cX10_requireRange 3 (ow_rm 9 1 6) := E
  refine or_lv [(0, .int v), (1, .int l), (2, .int m)] rfl ?_
  try dsimp only [A_requireRange] at hk
  refine or_iload_n E rfl dX10_requireRange_0 ?_
  refine or_iload_n E rfl dX10_requireRange_1 ?_
  refine or_icmp_lt 10 E dX10_requireRange_2 rfl (fun q2 => ?_) (fun q2 => ?_)
  · replace hk := ite_p (P := fun r : Nat => ox_e K S V z r none I) q2 hk
    try dsimp only at hk
    exact or_throwSW E G F tw_10_92_96 (by decide) (og_12 G 5 rfl) dX10_requireRange_10 dX10_requireRange_13 dX10_requireRange_14 dX10_requireRange_17 dX10_requireRange_20 (by decide) (Nat.le_of_ble_eq_true rfl) (Nat.le_of_ble_eq_true rfl) (Nat.le_of_ble_eq_true rfl) (hk.2 (by decide))
  · replace hk := ite_n (P := fun r : Nat => ox_e K S V z r none I) q2 hk
    refine or_iload_n E rfl dX10_requireRange_5 ?_
    refine or_iload_n E rfl dX10_requireRange_6 ?_
    refine or_icmp_le 21 E dX10_requireRange_7 rfl (fun q7 => ?_) (fun q7 => ?_)
    · replace hk := ite_p (P := fun r : Nat => ox_e K S V z r none I) q7 hk
      try dsimp only at hk
      exact or_xr E F (fun X' E' F' => or_vret E' F' dX10_requireRange_21 (Nat.le_of_ble_eq_true rfl) (Nat.le_of_ble_eq_true rfl) (hk.1 rfl))
    · replace hk := ite_n (P := fun r : Nat => ox_e K S V z r none I) q7 hk
      try dsimp only at hk
      exact or_throwSW E G F tw_10_92_96 (by decide) (og_12 G 5 rfl) dX10_requireRange_10 dX10_requireRange_13 dX10_requireRange_14 dX10_requireRange_17 dX10_requireRange_20 (by decide) (Nat.le_of_ble_eq_true rfl) (Nat.le_of_ble_eq_true rfl) (Nat.le_of_ble_eq_true rfl) (hk.2 (by decide))
def A_requireState (b : Bool) (I : ow_I) : Nat :=
  if b then 0 else 2
set_option maxRecDepth 100000 in
set_option maxHeartbeats 400000 in
theorem cA_requireState {Z : Nat → Nat} {S : Nat → Option ow_Sh} {I : ow_I} {V : Nat → Nat → Value} {z : Nat} {b : Bool}   : ow_Cx Z yX10_requireState cX10_requireState 1 none 9 1 6 [.int (bi b)] (S, I, V, z) (ox_s S V z (A_requireState b I) none I) := by
  refine ow_Cx.off rfl (Nat.le_of_ble_eq_true rfl) (fun X K E G F hk => ?_)
  have E : ow_E X RX10 cX10_requireState 1 (ow_rm 9 1 6) := E
  refine or_lv [(0, .int (bi b))] rfl ?_
  try dsimp only [A_requireState] at hk
  refine or_iload_n E rfl dX10_requireState_0 ?_
  refine or_if_neZ 15 E dX10_requireState_1 rfl (fun q1 => ?_) (fun q1 => ?_)
  · replace hk := ite_p (P := fun r : Nat => ox_e K S V z r none I) q1 hk
    try dsimp only at hk
    exact or_xr E F (fun X' E' F' => or_vret E' F' dX10_requireState_15 (Nat.le_of_ble_eq_true rfl) (Nat.le_of_ble_eq_true rfl) (hk.1 rfl))
  · replace hk := ite_n (P := fun r : Nat => ox_e K S V z r none I) (bz_neg q1) hk
    try dsimp only at hk
    exact or_throwSW E G F tw_10_72_76 (by decide) (og_12 G 9 rfl) dX10_requireState_4 dX10_requireState_7 dX10_requireState_8 dX10_requireState_11 dX10_requireState_14 (by decide) (Nat.le_of_ble_eq_true rfl) (Nat.le_of_ble_eq_true rfl) (Nat.le_of_ble_eq_true rfl) (hk.2 (by decide))
def A_requireBuyer (x : Nat) (b : Int32) (I : ow_I) : Nat :=
  if K_hasBuyer (x + 1) b I then 0 else 3
set_option maxRecDepth 100000 in
set_option maxHeartbeats 400000 in
theorem cA_requireBuyer {Z : Nat → Nat} {S : Nat → Option ow_Sh} {I : ow_I} {V : Nat → Nat → Value} {z : Nat} {x : Nat} {b : Int32} (h_x : au_S S x)  : ow_Cx Z yX10_requireBuyer cX10_requireBuyer 2 none 9 1 6 [.ref x, .int b] (S, I, V, z) (ox_s S V z (A_requireBuyer x b I) none I) := by
  refine ow_Cx.off rfl (Nat.le_of_ble_eq_true rfl) (fun X K E G F hk => ?_)
  have E : ow_E X RX10 cX10_requireBuyer 2 (ow_rm 9 1 6) := E
  refine or_lv [(0, .ref x), (1, .int b)] rfl ?_
  try dsimp only [A_requireBuyer] at hk
  refine or_aload_n E rfl dX10_requireBuyer_0 ?_
  refine ot_getC E fl_10_10 dX10_requireBuyer_1 h_x.1 rfl ?_
  refine or_iload_n E rfl dX10_requireBuyer_4 ?_
  refine or_cV1r (cK_hasBuyer  h_x.2.1 ) E lk_10_356 dX10_requireBuyer_5 h_x.2.1.1 rfl rfl (by decide) (by decide) ⟨(Nat.le_of_ble_eq_true rfl), (Nat.le_of_ble_eq_true rfl)⟩ (Nat.le_of_ble_eq_true rfl) ?_
  refine or_if_neZ 22 E dX10_requireBuyer_8 rfl (fun q8 => ?_) (fun q8 => ?_)
  · replace hk := ite_p (P := fun r : Nat => ox_e K S V z r none I) q8 hk
    try dsimp only at hk
    exact or_xr E F (fun X' E' F' => or_vret E' F' dX10_requireBuyer_22 (Nat.le_of_ble_eq_true rfl) (Nat.le_of_ble_eq_true rfl) (hk.1 rfl))
  · replace hk := ite_n (P := fun r : Nat => ox_e K S V z r none I) (bz_neg q8) hk
    try dsimp only at hk
    exact or_throwSW E G F tw_10_269_273 (by decide) (og_12 G 8 rfl) dX10_requireBuyer_11 dX10_requireBuyer_14 dX10_requireBuyer_15 dX10_requireBuyer_18 dX10_requireBuyer_21 (by decide) (Nat.le_of_ble_eq_true rfl) (Nat.le_of_ble_eq_true rfl) (Nat.le_of_ble_eq_true rfl) (hk.2 (by decide))
def A_requireBarrel (x : Nat) (b : Int32) (I : ow_I) : Nat :=
  if K_hasBarrel (x + 1) b I then 0 else 3
set_option maxRecDepth 100000 in
set_option maxHeartbeats 400000 in
theorem cA_requireBarrel {Z : Nat → Nat} {S : Nat → Option ow_Sh} {I : ow_I} {V : Nat → Nat → Value} {z : Nat} {x : Nat} {b : Int32} (h_x : au_S S x)  : ow_Cx Z yX10_requireBarrel cX10_requireBarrel 2 none 9 1 6 [.ref x, .int b] (S, I, V, z) (ox_s S V z (A_requireBarrel x b I) none I) := by
  refine ow_Cx.off rfl (Nat.le_of_ble_eq_true rfl) (fun X K E G F hk => ?_)
  have E : ow_E X RX10 cX10_requireBarrel 2 (ow_rm 9 1 6) := E
  refine or_lv [(0, .ref x), (1, .int b)] rfl ?_
  try dsimp only [A_requireBarrel] at hk
  refine or_aload_n E rfl dX10_requireBarrel_0 ?_
  refine ot_getC E fl_10_10 dX10_requireBarrel_1 h_x.1 rfl ?_
  refine or_iload_n E rfl dX10_requireBarrel_4 ?_
  refine or_cV1r (cK_hasBarrel  h_x.2.1 ) E lk_10_351 dX10_requireBarrel_5 h_x.2.1.1 rfl rfl (by decide) (by decide) ⟨(Nat.le_of_ble_eq_true rfl), (Nat.le_of_ble_eq_true rfl)⟩ (Nat.le_of_ble_eq_true rfl) ?_
  refine or_if_neZ 22 E dX10_requireBarrel_8 rfl (fun q8 => ?_) (fun q8 => ?_)
  · replace hk := ite_p (P := fun r : Nat => ox_e K S V z r none I) q8 hk
    try dsimp only at hk
    exact or_xr E F (fun X' E' F' => or_vret E' F' dX10_requireBarrel_22 (Nat.le_of_ble_eq_true rfl) (Nat.le_of_ble_eq_true rfl) (hk.1 rfl))
  · replace hk := ite_n (P := fun r : Nat => ox_e K S V z r none I) (bz_neg q8) hk
    try dsimp only at hk
    exact or_throwSW E G F tw_10_269_273 (by decide) (og_12 G 10 rfl) dX10_requireBarrel_11 dX10_requireBarrel_14 dX10_requireBarrel_15 dX10_requireBarrel_18 dX10_requireBarrel_21 (by decide) (Nat.le_of_ble_eq_true rfl) (Nat.le_of_ble_eq_true rfl) (Nat.le_of_ble_eq_true rfl) (hk.2 (by decide))
