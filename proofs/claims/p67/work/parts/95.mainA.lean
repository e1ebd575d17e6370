/-! THE CLASS ITSELF: its cells; its methods (laid by wip/whole/class14.py) -/
def au_k (x : Nat) : Nat → Option (Option Value) := fun k => match k with
  | 0 => some (some (.ref (x + 1)))
  | 1 => some (some (.ref (x + 52)))
  | 2 => some (some (.ref (x + 103)))
  | 3 => some (some (.ref (x + 513)))
  | 4 => some (some (.ref (x + 514)))
  | 5 => some (some (.ref (x + 515)))
  | 6 => some (some (.ref (x + 561)))
  | 7 => some (some (.ref (x + 562)))
  | _ => none
def au_sn (x : Nat) : Nat → Option (Option Value) := fun j => some (some (.ref (x + 564 + 51 * j)))
def au_S (S : Nat → Option ow_Sh) (x : Nat) : Prop := S x = some (.inl (10, au_k x)) ∧ mk_S S (x + 1) ∧ mk_S S (x + 52) ∧ hs_S S (x + 103) ∧ S (x + 513) = some (.inr (.object "LowWaterAuction$Market", 2, au_sn x)) ∧ S (x + 514) = some (.inr (.boolean, 2, ow_n)) ∧ ps_S S (x + 515) ∧ i9_S S (x + 561) ∧ (∀ i, i < 2 → mk_S S (x + 564 + 51 * i))
theorem mk_br2 {S : Nat → Option ow_Sh} {a i : Nat} (h : mk_S S a) (hi : i < 20) : br_S S (a + 11 + 2 * i) := h.2.2.2.2.2.2 i hi
theorem mk_by2 {S : Nat → Option ow_Sh} {a i : Nat} (h : mk_S S a) (hi : i < 6) : by_S S (a + 5 + i) := h.2.2.2.2.2.1 i hi
theorem hb_t {a : Nat} {x : Int32} {I : ow_I} (h : 0 ≤ x ∧ tn x < tn (I a 10)) : K_hasBarrel a x I = true := by
  unfold K_hasBarrel
  rw [if_neg (fun q => by rw [Int32.lt_iff_toInt_lt] at q; have := h.1; rw [Int32.le_iff_toInt_le] at this; omega), if_neg (fun q => ?_)]
  have h1 := h.2
  unfold tn at h1
  rw [Int32.le_iff_toInt_le] at q
  simp only [Int32.toNatClampNeg] at h1
  omega
theorem hy_t {a : Nat} {x : Int32} {I : ow_I} (h : 0 ≤ x ∧ tn x < tn (I a 8)) : K_hasBuyer a x I = true := by
  unfold K_hasBuyer
  rw [if_neg (fun q => by rw [Int32.lt_iff_toInt_lt] at q; have := h.1; rw [Int32.le_iff_toInt_le] at this; omega), if_neg (fun q => ?_)]
  have h1 := h.2
  unfold tn at h1
  rw [Int32.le_iff_toInt_le] at q
  simp only [Int32.toNatClampNeg] at h1
  omega
theorem hb_n {P : Prop} {a : Nat} {x : Int32} {I : ow_I} (h : 0 ≤ x ∧ tn x < tn (I a 10)) (q : K_hasBarrel a x I = false) : P := by
  rw [hb_t h] at q; exact Bool.noConfusion q
theorem hy_n {P : Prop} {a : Nat} {x : Int32} {I : ow_I} (h : 0 ≤ x ∧ tn x < tn (I a 8)) (q : K_hasBuyer a x I = false) : P := by
  rw [hy_t h] at q; exact Bool.noConfusion q
theorem hr_1 {P : Prop} {l v : Int32} (h : l ≤ v) (q : v < l) : P := absurd q (Int32.not_lt.mpr h)
theorem hr_2 {P : Prop} {v m : Int32} (h : v ≤ m) (q : ¬ v ≤ m) : P := absurd h q
theorem hs_n {P : Prop} {b : Bool} (h : b = true) (q : b = false) : P := by rw [h] at q; exact Bool.noConfusion q
theorem tf_n {P : Prop} (q : true = false) : P := Bool.noConfusion q
theorem lt20 {x : Nat} {b : Int32} {I : ow_I} (hV : k_V (x + 1) I) (h : 0 ≤ b ∧ tn b < tn (I (x + 1) 10)) : tn b < 20 := Nat.lt_of_lt_of_le h.2 hV.2.1.2
theorem lt06 {x : Nat} {b : Int32} {I : ow_I} (hV : k_V (x + 1) I) (h : 0 ≤ b ∧ tn b < tn (I (x + 1) 8)) : tn b < 6 := Nat.lt_of_lt_of_le h.2 hV.1.2
theorem fl_10_10 : ow_fl RX10 10 10 0 := ⟨_, rfl, by decide, ow_T_in 534 (by decide +kernel) (by decide +kernel), ow_ok10⟩
theorem fl_10_185 : ow_fl RX10 185 6 7 := ⟨_, rfl, by decide, ow_T_in 171 (by decide +kernel) (by decide +kernel), ow_ok6⟩
theorem fl_10_194 : ow_fl RX10 194 6 9 := ⟨_, rfl, by decide, ow_T_in 175 (by decide +kernel) (by decide +kernel), ow_ok6⟩
theorem lk_10_127 : ow_lv RX10 127 yX10_requireBuyer cX10_requireBuyer 2 none 1 := ⟨ow_T_in 1013 (by decide +kernel) (by decide +kernel), ow_T_in 1015 (by decide +kernel) (by decide +kernel), ow_T_sel 21 (by decide +kernel) (by decide +kernel), ow_T_in 1 (by decide +kernel) (by decide +kernel), ow_T_in 1016 (by decide +kernel) (by decide +kernel), ⟨by decide +kernel, by decide +kernel, by decide +kernel⟩⟩
theorem lk_10_161 : ow_lv RX10 161 yX10_requireBarrel cX10_requireBarrel 2 none 1 := ⟨ow_T_in 943 (by decide +kernel) (by decide +kernel), ow_T_in 945 (by decide +kernel) (by decide +kernel), ow_T_sel 19 (by decide +kernel) (by decide +kernel), ow_T_in 1 (by decide +kernel) (by decide +kernel), ow_T_in 946 (by decide +kernel) (by decide +kernel), ⟨by decide +kernel, by decide +kernel, by decide +kernel⟩⟩
theorem lk_10_351 : ow_lv RX10 351 yX6_hasBarrel cX6_hasBarrel 2 (some .boolean) 1 := ⟨ow_T_in 947 (by decide +kernel) (by decide +kernel), ow_T_in 948 (by decide +kernel) (by decide +kernel), ow_T_in 949 (by decide +kernel) (by decide +kernel), ow_T_in 2 (by decide +kernel) (by decide +kernel), ow_T_in 950 (by decide +kernel) (by decide +kernel), ⟨by decide +kernel, by decide +kernel, by decide +kernel⟩⟩
theorem lk_10_356 : ow_lv RX10 356 yX6_hasBuyer cX6_hasBuyer 2 (some .boolean) 1 := ⟨ow_T_in 1017 (by decide +kernel) (by decide +kernel), ow_T_in 1018 (by decide +kernel) (by decide +kernel), ow_T_in 1019 (by decide +kernel) (by decide +kernel), ow_T_in 2 (by decide +kernel) (by decide +kernel), ow_T_in 1020 (by decide +kernel) (by decide +kernel), ⟨by decide +kernel, by decide +kernel, by decide +kernel⟩⟩
theorem tw_10_72_76 : ox_tw RX10 72 76 2 ["java/lang/RuntimeException", "java/lang/Exception"] := ⟨ow_T_in 846 (by decide +kernel) (by decide +kernel), ow_T_in 28 (by decide +kernel) (by decide +kernel), ow_T_ins [24, 795, 804, 808, 811, 813, 796, 797, 36, 37, 798, 803, 809, 829, 785, 830, 787, 831, 789, 799, 801, 791, 825, 826, 828, 791, 857, 858, 859, 819, 819, 820, 821, 822, 822, 823, 824, 825, 856, 847, 849, 806, 850, 851, 852, 853, 794, 793, 854] (by decide +kernel) (by decide +kernel), by decide +kernel, by decide +kernel, by decide +kernel, by decide +kernel, by decide +kernel, by decide⟩
def A_requireRange (v : Int32) (l : Int32) (m : Int32) (I : ow_I) : ow_I :=
  I
set_option maxRecDepth 100000 in
set_option maxHeartbeats 400000 in
theorem cA_requireRange {Z : Nat → Nat} {S : Nat → Option ow_Sh} {I : ow_I} {V : Nat → Nat → Value} {z : Nat} {v : Int32} {l : Int32} {m : Int32}  (h1 : l ≤ v) (h2 : v ≤ m) : ow_Cx Z yX10_requireRange cX10_requireRange 3 none 0 0 0 [.int v, .int l, .int m] (S, I, V, z) (ox_s S V z 0 none I) := by
  refine ow_Cx.off rfl (Nat.le_of_ble_eq_true rfl) (fun X K E G F hk => ?_)
  have E : ow_E X RX10 cX10_requireRange 3 (ow_rm 0 0 0) := E
  refine or_lv [(0, .int v), (1, .int l), (2, .int m)] rfl ?_
  try dsimp only [A_requireRange] at hk
  refine or_iload_n E rfl dX10_requireRange_0 ?_
  refine or_iload_n E rfl dX10_requireRange_1 ?_
  refine or_icmp_lt 10 E dX10_requireRange_2 rfl (fun q2 => (hr_1 h1) q2) (fun q2 => ?_)
  refine or_iload_n E rfl dX10_requireRange_5 ?_
  refine or_iload_n E rfl dX10_requireRange_6 ?_
  refine or_icmp_le 21 E dX10_requireRange_7 rfl (fun q7 => ?_) (fun q7 => (hr_2 h2) q7)
  exact or_xr E F (fun X' E' F' => or_vret E' F' dX10_requireRange_21 (Nat.le_of_ble_eq_true rfl) (Nat.le_of_ble_eq_true rfl) (hk.1 rfl))
def A_requireState (b : Bool) (I : ow_I) : Nat :=
  if b then 0 else 2
set_option maxRecDepth 100000 in
set_option maxHeartbeats 400000 in
theorem cA_requireState {Z : Nat → Nat} {S : Nat → Option ow_Sh} {I : ow_I} {V : Nat → Nat → Value} {z : Nat} {b : Bool}   : ow_Cx Z yX10_requireState cX10_requireState 1 none 9 1 6 [.int (bi b)] (S, I, V, z) (ox_s S V z (A_requireState b I) none I) := by
  refine ow_Cx.off rfl (Nat.le_of_ble_eq_true rfl) (fun X K E G F hk => ?_)
  have E : ow_E X RX10 cX10_requireState 1 (ow_rm 9 1 6) := E
  refine or_lv [(0, .int (bi b))] rfl ?_
  try dsimp only [A_requireState] at hk
  refine or_iload_n E rfl dX10_requireState_0 ?_
  refine or_if_neZ 15 E dX10_requireState_1 rfl (fun q1 => ?_) (fun q1 => ?_)
  · replace hk := ite_p (P := fun r : Nat => ox_e K S V z r none I) q1 hk
    try dsimp only at hk
    exact or_xr E F (fun X' E' F' => or_vret E' F' dX10_requireState_15 (Nat.le_of_ble_eq_true rfl) (Nat.le_of_ble_eq_true rfl) (hk.1 rfl))
  · replace hk := ite_n (P := fun r : Nat => ox_e K S V z r none I) (bz_neg q1) hk
    try dsimp only at hk
    exact or_throwSW E G F tw_10_72_76 (by decide) (og_12 G 9 rfl) dX10_requireState_4 dX10_requireState_7 dX10_requireState_8 dX10_requireState_11 dX10_requireState_14 (by decide) (Nat.le_of_ble_eq_true rfl) (Nat.le_of_ble_eq_true rfl) (Nat.le_of_ble_eq_true rfl) (hk.2 (by decide))
def A_requireBuyer (x : Nat) (y : Int32) (I : ow_I) : ow_I :=
  I
set_option maxRecDepth 100000 in
set_option maxHeartbeats 400000 in
theorem cA_requireBuyer {Z : Nat → Nat} {S : Nat → Option ow_Sh} {I : ow_I} {V : Nat → Nat → Value} {z : Nat} {x : Nat} {y : Int32} (h_x : au_S S x) (hy : 0 ≤ y ∧ tn y < tn (I (x + 1) 8)) : ow_Cx Z yX10_requireBuyer cX10_requireBuyer 2 none 1 0 0 [.ref x, .int y] (S, I, V, z) (ox_s S V z 0 none I) := by
  refine ow_Cx.off rfl (Nat.le_of_ble_eq_true rfl) (fun X K E G F hk => ?_)
  have E : ow_E X RX10 cX10_requireBuyer 2 (ow_rm 1 0 0) := E
  refine or_lv [(0, .ref x), (1, .int y)] rfl ?_
  try dsimp only [A_requireBuyer] at hk
  refine or_aload_n E rfl dX10_requireBuyer_0 ?_
  refine ot_getC E fl_10_10 dX10_requireBuyer_1 h_x.1 rfl ?_
  refine or_iload_n E rfl dX10_requireBuyer_4 ?_
  refine or_cV1r (cK_hasBuyer  h_x.2.1 ) E lk_10_356 dX10_requireBuyer_5 h_x.2.1.1 rfl rfl (by decide) (by decide) ⟨(Nat.le_of_ble_eq_true rfl), (Nat.le_of_ble_eq_true rfl)⟩ (Nat.le_of_ble_eq_true rfl) ?_
  refine or_if_neZ 22 E dX10_requireBuyer_8 rfl (fun q8 => ?_) (fun q8 => (hy_n hy) q8)
  exact or_xr E F (fun X' E' F' => or_vret E' F' dX10_requireBuyer_22 (Nat.le_of_ble_eq_true rfl) (Nat.le_of_ble_eq_true rfl) (hk.1 rfl))
def A_requireBarrel (x : Nat) (b : Int32) (I : ow_I) : ow_I :=
  I
set_option maxRecDepth 100000 in
set_option maxHeartbeats 400000 in
theorem cA_requireBarrel {Z : Nat → Nat} {S : Nat → Option ow_Sh} {I : ow_I} {V : Nat → Nat → Value} {z : Nat} {x : Nat} {b : Int32} (h_x : au_S S x) (hb : 0 ≤ b ∧ tn b < tn (I (x + 1) 10)) : ow_Cx Z yX10_requireBarrel cX10_requireBarrel 2 none 1 0 0 [.ref x, .int b] (S, I, V, z) (ox_s S V z 0 none I) := by
  refine ow_Cx.off rfl (Nat.le_of_ble_eq_true rfl) (fun X K E G F hk => ?_)
  have E : ow_E X RX10 cX10_requireBarrel 2 (ow_rm 1 0 0) := E
  refine or_lv [(0, .ref x), (1, .int b)] rfl ?_
  try dsimp only [A_requireBarrel] at hk
  refine or_aload_n E rfl dX10_requireBarrel_0 ?_
  refine ot_getC E fl_10_10 dX10_requireBarrel_1 h_x.1 rfl ?_
  refine or_iload_n E rfl dX10_requireBarrel_4 ?_
  refine or_cV1r (cK_hasBarrel  h_x.2.1 ) E lk_10_351 dX10_requireBarrel_5 h_x.2.1.1 rfl rfl (by decide) (by decide) ⟨(Nat.le_of_ble_eq_true rfl), (Nat.le_of_ble_eq_true rfl)⟩ (Nat.le_of_ble_eq_true rfl) ?_
  refine or_if_neZ 22 E dX10_requireBarrel_8 rfl (fun q8 => ?_) (fun q8 => (hb_n hb) q8)
  exact or_xr E F (fun X' E' F' => or_vret E' F' dX10_requireBarrel_22 (Nat.le_of_ble_eq_true rfl) (Nat.le_of_ble_eq_true rfl) (hk.1 rfl))
def A_barrelAt (x : Nat) (b : Int32) (I : ow_I) : ow_I :=
  I
set_option maxRecDepth 100000 in
set_option maxHeartbeats 400000 in
theorem cA_barrelAt {Z : Nat → Nat} {S : Nat → Option ow_Sh} {I : ow_I} {V : Nat → Nat → Value} {z : Nat} {x : Nat} {b : Int32} (h_x : au_S S x) (hV : k_V (x + 1) I) (hb : 0 ≤ b ∧ tn b < tn (I (x + 1) 10)) : ow_Cx Z yX10_barrelAt cX10_barrelAt 2 (some (.object "LowWaterAuction$Barrel")) 2 0 0 [.ref x, .int b] (S, I, V, z) (ox_s S V z 0 (some (.ref (x + 1 + 11 + 2 * (tn b)))) I) := by
  refine ow_Cx.off rfl (Nat.le_of_ble_eq_true rfl) (fun X K E G F hk => ?_)
  have E : ow_E X RX10 cX10_barrelAt 2 (ow_rm 2 0 0) := E
  refine or_lv [(0, .ref x), (1, .int b)] rfl ?_
  try dsimp only [A_barrelAt] at hk
  refine or_aload_n E rfl dX10_barrelAt_0 ?_
  refine or_iload_n E rfl dX10_barrelAt_1 ?_
  refine or_fV1v (cA_requireBarrel (Z := Z)  h_x hb) E G F lk_10_161 dX10_barrelAt_2 h_x.1 rfl rfl (by decide) (by decide) ⟨(Nat.le_of_ble_eq_true rfl), (Nat.le_of_ble_eq_true rfl)⟩ (Nat.le_of_ble_eq_true rfl) (fun _ => ?_) (fun h => absurd h (Nat.lt_irrefl 0))
  refine or_aload_n E rfl dX10_barrelAt_5 ?_
  refine ot_getC E fl_10_10 dX10_barrelAt_6 h_x.1 rfl ?_
  refine ot_getC E fl_10_194 dX10_barrelAt_9 h_x.2.1.1 rfl ?_
  refine or_iload_n E rfl dX10_barrelAt_12 ?_
  refine or_top (nI_tn hb.1).symm ?_
  refine ot_aald (j := tn b) E dX10_barrelAt_13 h_x.2.1.2.2.2.1 rfl rfl (lt20 hV hb) (Nat.le_of_ble_eq_true rfl) ?_
  exact or_xr E F (fun X' E' F' => or_aret E' F' (Or.inl ⟨_, rfl⟩) (Or.inr ⟨_, rfl⟩) dX10_barrelAt_14 (Nat.le_of_ble_eq_true rfl) (Nat.le_of_ble_eq_true rfl) (hk.1 rfl))
def A_buyerAt (x : Nat) (y : Int32) (I : ow_I) : ow_I :=
  I
set_option maxRecDepth 100000 in
set_option maxHeartbeats 400000 in
theorem cA_buyerAt {Z : Nat → Nat} {S : Nat → Option ow_Sh} {I : ow_I} {V : Nat → Nat → Value} {z : Nat} {x : Nat} {y : Int32} (h_x : au_S S x) (hV : k_V (x + 1) I) (hy : 0 ≤ y ∧ tn y < tn (I (x + 1) 8)) : ow_Cx Z yX10_buyerAt cX10_buyerAt 2 (some (.object "LowWaterAuction$Buyer")) 2 0 0 [.ref x, .int y] (S, I, V, z) (ox_s S V z 0 (some (.ref (x + 1 + 5 + (tn y)))) I) := by
  refine ow_Cx.off rfl (Nat.le_of_ble_eq_true rfl) (fun X K E G F hk => ?_)
  have E : ow_E X RX10 cX10_buyerAt 2 (ow_rm 2 0 0) := E
  refine or_lv [(0, .ref x), (1, .int y)] rfl ?_
  try dsimp only [A_buyerAt] at hk
  refine or_aload_n E rfl dX10_buyerAt_0 ?_
  refine or_iload_n E rfl dX10_buyerAt_1 ?_
  refine or_fV1v (cA_requireBuyer (Z := Z)  h_x hy) E G F lk_10_127 dX10_buyerAt_2 h_x.1 rfl rfl (by decide) (by decide) ⟨(Nat.le_of_ble_eq_true rfl), (Nat.le_of_ble_eq_true rfl)⟩ (Nat.le_of_ble_eq_true rfl) (fun _ => ?_) (fun h => absurd h (Nat.lt_irrefl 0))
  refine or_aload_n E rfl dX10_buyerAt_5 ?_
  refine ot_getC E fl_10_10 dX10_buyerAt_6 h_x.1 rfl ?_
  refine ot_getC E fl_10_185 dX10_buyerAt_9 h_x.2.1.1 rfl ?_
  refine or_iload_n E rfl dX10_buyerAt_12 ?_
  refine or_top (nI_tn hy.1).symm ?_
  refine ot_aald (j := tn y) E dX10_buyerAt_13 h_x.2.1.2.2.1 rfl rfl (lt06 hV hy) (Nat.le_of_ble_eq_true rfl) ?_
  exact or_xr E F (fun X' E' F' => or_aret E' F' (Or.inl ⟨_, rfl⟩) (Or.inr ⟨_, rfl⟩) dX10_buyerAt_14 (Nat.le_of_ble_eq_true rfl) (Nat.le_of_ble_eq_true rfl) (hk.1 rfl))
