theorem hr_3 {P : Prop} {v m : Int32} (h : v < m) (q : ¬ v < m) : P := absurd h q
theorem fl_10_16 : ow_fl RX10 16 10 1 := ⟨_, rfl, by decide, ow_T_in 535 (by decide +kernel) (by decide +kernel), ow_ok10⟩
theorem fl_10_41 : ow_fl RX10 41 10 6 := ⟨_, rfl, by decide, ow_T_in 540 (by decide +kernel) (by decide +kernel), ow_ok10⟩
theorem fl_10_259 : ow_fl RX10 259 6 11 := ⟨_, rfl, by decide, ow_T_in 179 (by decide +kernel) (by decide +kernel), ow_ok6⟩
theorem fl_10_274 : ow_fl RX10 274 1 0 := ⟨_, rfl, by decide, ow_T_in 105 (by decide +kernel) (by decide +kernel), ow_ok1⟩
theorem fl_10_325 : ow_fl RX10 325 6 6 := ⟨_, rfl, by decide, ow_T_in 169 (by decide +kernel) (by decide +kernel), ow_ok6⟩
theorem lk_10_101 : ow_lv RX10 101 yX6_copyFrom cX6_copyFrom 3 none 1 := ⟨ow_T_in 894 (by decide +kernel) (by decide +kernel), ow_T_in 876 (by decide +kernel) (by decide +kernel), ow_T_in 877 (by decide +kernel) (by decide +kernel), ow_T_in 2 (by decide +kernel) (by decide +kernel), ow_T_in 878 (by decide +kernel) (by decide +kernel), ⟨by decide +kernel, by decide +kernel, by decide +kernel⟩⟩
theorem lk_10_147 : ow_lv RX10 147 yX6_hasRoom cX6_hasRoom 1 (some .boolean) 0 := ⟨ow_T_in 926 (by decide +kernel) (by decide +kernel), ow_T_in 508 (by decide +kernel) (by decide +kernel), ow_T_in 509 (by decide +kernel) (by decide +kernel), ow_T_in 2 (by decide +kernel) (by decide +kernel), ow_T_in 510 (by decide +kernel) (by decide +kernel), ⟨by decide +kernel, by decide +kernel, by decide +kernel⟩⟩
theorem lk_10_151 : ow_lt RX10 151 yJ7_fill_53178 cJ7_fill_53178 4 none 2 := ⟨ow_T_in 931 (by decide +kernel) (by decide +kernel), ow_T_in 932 (by decide +kernel) (by decide +kernel), ow_T_in 20 (by decide +kernel) (by decide +kernel), ow_T_in 933 (by decide +kernel) (by decide +kernel), ⟨by decide +kernel, by decide +kernel, by decide +kernel⟩⟩
theorem lk_10_157 : ow_lv RX10 157 yX6_takeBarrel cX6_takeBarrel 6 (some .int) 4 := ⟨ow_T_in 934 (by decide +kernel) (by decide +kernel), ow_T_in 504 (by decide +kernel) (by decide +kernel), ow_T_in 505 (by decide +kernel) (by decide +kernel), ow_T_in 2 (by decide +kernel) (by decide +kernel), ow_T_in 506 (by decide +kernel) (by decide +kernel), ⟨by decide +kernel, by decide +kernel, by decide +kernel⟩⟩
theorem lk_10_283 : ow_lv RX10 283 yX1_lengthAtRank cX1_lengthAtRank 6 (some .int) 1 := ⟨ow_T_in 975 (by decide +kernel) (by decide +kernel), ow_T_in 976 (by decide +kernel) (by decide +kernel), ow_T_in 977 (by decide +kernel) (by decide +kernel), ow_T_in 5 (by decide +kernel) (by decide +kernel), ow_T_in 978 (by decide +kernel) (by decide +kernel), ⟨by decide +kernel, by decide +kernel, by decide +kernel⟩⟩
theorem lk_10_308 : ow_lv RX10 308 yX2_valueOf cX2_valueOf 2 (some .double) 1 := ⟨ow_T_in 1256 (by decide +kernel) (by decide +kernel), ow_T_in 1222 (by decide +kernel) (by decide +kernel), ow_T_in 1223 (by decide +kernel) (by decide +kernel), ow_T_in 4 (by decide +kernel) (by decide +kernel), ow_T_in 1224 (by decide +kernel) (by decide +kernel), ⟨by decide +kernel, by decide +kernel, by decide +kernel⟩⟩
theorem lk_10_318 : ow_lv RX10 318 yX6_keenest cX6_keenest 4 (some .int) 1 := ⟨ow_T_in 1261 (by decide +kernel) (by decide +kernel), ow_T_in 1262 (by decide +kernel) (by decide +kernel), ow_T_in 1263 (by decide +kernel) (by decide +kernel), ow_T_in 2 (by decide +kernel) (by decide +kernel), ow_T_in 1264 (by decide +kernel) (by decide +kernel), ⟨by decide +kernel, by decide +kernel, by decide +kernel⟩⟩
theorem lk_10_322 : ow_lv RX10 322 yX10_foresee cX10_foresee 3 none 2 := ⟨ow_T_in 1292 (by decide +kernel) (by decide +kernel), ow_T_in 1294 (by decide +kernel) (by decide +kernel), ow_T_sel 29 (by decide +kernel) (by decide +kernel), ow_T_in 1 (by decide +kernel) (by decide +kernel), ow_T_in 1295 (by decide +kernel) (by decide +kernel), ⟨by decide +kernel, by decide +kernel, by decide +kernel⟩⟩
theorem lk_10_328 : ow_lv RX10 328 yX6_coinsInPurses cX6_coinsInPurses 3 (some .int) 0 := ⟨ow_T_in 567 (by decide +kernel) (by decide +kernel), ow_T_in 568 (by decide +kernel) (by decide +kernel), ow_T_in 569 (by decide +kernel) (by decide +kernel), ow_T_in 2 (by decide +kernel) (by decide +kernel), ow_T_in 570 (by decide +kernel) (by decide +kernel), ⟨by decide +kernel, by decide +kernel, by decide +kernel⟩⟩
def A_requireStateN (b : Bool) (I : ow_I) : ow_I :=
  I
set_option maxRecDepth 100000 in
set_option maxHeartbeats 400000 in
theorem cA_requireStateN {Z : Nat → Nat} {S : Nat → Option ow_Sh} {I : ow_I} {V : Nat → Nat → Value} {z : Nat} {b : Bool}  (hb : b = true) : ow_Cx Z yX10_requireState cX10_requireState 1 none 0 0 0 [.int (bi b)] (S, I, V, z) (ox_s S V z 0 none I) := by
  refine ow_Cx.off rfl (Nat.le_of_ble_eq_true rfl) (fun X K E G F hk => ?_)
  have E : ow_E X RX10 cX10_requireState 1 (ow_rm 0 0 0) := E
  refine or_lv [(0, .int (bi b))] rfl ?_
  try dsimp only [A_requireStateN] at hk
  refine or_iload_n E rfl dX10_requireState_0 ?_
  refine or_if_neZ 15 E dX10_requireState_1 rfl (fun q1 => ?_) (fun q1 => (hs_n hb) q1)
  exact or_xr E F (fun X' E' F' => or_vret E' F' dX10_requireState_15 (Nat.le_of_ble_eq_true rfl) (Nat.le_of_ble_eq_true rfl) (hk.1 rfl))
def A_addBarrel (x : Nat) (r : Int32) (n : Int32) (l : Int32) (I : ow_I) : Int32 × ow_I :=
  lt (H_remember (x + 103) (x + 1) I) (fun (I1 : ow_I) => lt (j7_fill_53178 (x + 561) l I1) (fun (I2 : ow_I) => lt (K_takeBarrel (x + 1) r (x + 561) 0 (tn n) I2) (fun (r3 : Int32 × ow_I) => (r3.1, r3.2))))
set_option maxRecDepth 100000 in
set_option maxHeartbeats 400000 in
theorem cA_addBarrel {Z : Nat → Nat} {S : Nat → Option ow_Sh} {I : ow_I} {V : Nat → Nat → Value} {z : Nat} {x : Nat} {r : Int32} {n : Int32} {l : Int32} (h_x : au_S S x) (hX : au_V x I) (h1 : nI 1 ≤ r) (h2 : r ≤ nI 999) (h3 : nI 1 ≤ n) (h4 : n ≤ nI 9) (h5 : nI 10 ≤ l) (h6 : l ≤ nI 150) (h7 : K_hasRoom (x + 1) I = true) : ow_Cx Z yX10_addBarrel cX10_addBarrel 4 (some .int) 4 0 0 [.ref x, .int r, .int n, .int l] (S, I, V, z) (ox_s S V z 0 (some (.int ((A_addBarrel x r n l I).1))) ((A_addBarrel x r n l I).2)) := by
  refine ow_Cx.off rfl (Nat.le_of_ble_eq_true rfl) (fun X K E G F hk => ?_)
  have E : ow_E X RX10 cX10_addBarrel 4 (ow_rm 4 0 0) := E
  refine or_lv [(0, .ref x), (1, .int r), (2, .int n), (3, .int l)] rfl ?_
  try dsimp only [A_addBarrel] at hk
  refine or_iload_n E rfl dX10_addBarrel_0 ?_
  refine or_iconst (v := nI 1) E rfl dX10_addBarrel_1 ?_
  refine or_sipush (v := nI 999) E rfl dX10_addBarrel_2 ?_
  refine or_fT3v (cA_requireRange (Z := Z)   h1 h2) E G F lk_10_82 dX10_addBarrel_5 (by decide) (by decide) ⟨(Nat.le_of_ble_eq_true rfl), (Nat.le_of_ble_eq_true rfl)⟩ (Nat.le_of_ble_eq_true rfl) (fun _ => ?_) (fun h => absurd h (Nat.lt_irrefl 0))
  refine or_iload_n E rfl dX10_addBarrel_8 ?_
  refine or_iconst (v := nI 1) E rfl dX10_addBarrel_9 ?_
  refine or_bipush (v := nI 9) E rfl dX10_addBarrel_10 ?_
  refine or_fT3v (cA_requireRange (Z := Z)   h3 h4) E G F lk_10_82 dX10_addBarrel_12 (by decide) (by decide) ⟨(Nat.le_of_ble_eq_true rfl), (Nat.le_of_ble_eq_true rfl)⟩ (Nat.le_of_ble_eq_true rfl) (fun _ => ?_) (fun h => absurd h (Nat.lt_irrefl 0))
  refine or_iload_n E rfl dX10_addBarrel_15 ?_
  refine or_bipush (v := nI 10) E rfl dX10_addBarrel_16 ?_
  refine or_sipush (v := nI 150) E rfl dX10_addBarrel_18 ?_
  refine or_fT3v (cA_requireRange (Z := Z)   h5 h6) E G F lk_10_82 dX10_addBarrel_21 (by decide) (by decide) ⟨(Nat.le_of_ble_eq_true rfl), (Nat.le_of_ble_eq_true rfl)⟩ (Nat.le_of_ble_eq_true rfl) (fun _ => ?_) (fun h => absurd h (Nat.lt_irrefl 0))
  refine or_aload_n E rfl dX10_addBarrel_24 ?_
  refine ot_getC E fl_10_10 dX10_addBarrel_25 h_x.1 rfl ?_
  refine or_cV0r (cK_hasRoom  h_x.2.1 ) E lk_10_147 dX10_addBarrel_28 h_x.2.1.1 rfl rfl (by decide) (by decide) ⟨(Nat.le_of_ble_eq_true rfl), (Nat.le_of_ble_eq_true rfl)⟩ (Nat.le_of_ble_eq_true rfl) ?_
  refine or_fT1v (cA_requireStateN (Z := Z)   h7) E G F lk_10_134 dX10_addBarrel_31 (by decide) (by decide) ⟨(Nat.le_of_ble_eq_true rfl), (Nat.le_of_ble_eq_true rfl)⟩ (Nat.le_of_ble_eq_true rfl) (fun _ => ?_) (fun h => absurd h (Nat.lt_irrefl 0))
  refine or_aload_n E rfl dX10_addBarrel_34 ?_
  refine ot_getC E fl_10_22 dX10_addBarrel_35 h_x.1 rfl ?_
  refine or_aload_n E rfl dX10_addBarrel_38 ?_
  refine ot_getC E fl_10_10 dX10_addBarrel_39 h_x.1 rfl ?_
  refine or_cV1v (cH_remember  h_x.2.2.2.1 h_x.2.1 (by omega) hX.2.2.2.2.1.1 hX.2.2.2.2.1.2 hX.1.1.1 hX.1.1.2 hX.1.2.1.1 hX.1.2.1.2) E lk_10_97 dX10_addBarrel_42 h_x.2.2.2.1.1 rfl rfl (by decide) (by decide) ⟨(Nat.le_of_ble_eq_true rfl), (Nat.le_of_ble_eq_true rfl)⟩ (Nat.le_of_ble_eq_true rfl) ?_
  obtain ⟨I1, hI1⟩ : ∃ y_ : ow_I, y_ = H_remember (x + 103) (x + 1) I := ⟨_, rfl⟩
  replace hk := lt_k (P := fun r : Int32 × ow_I => ox_e K S V z 0 (some (.int ((r).1))) ((r).2)) hI1 hk
  refine or_nmI hI1 ?_
  refine or_aload_n E rfl dX10_addBarrel_45 ?_
  refine ot_getC E fl_10_41 dX10_addBarrel_46 h_x.1 rfl ?_
  refine or_iload_n E rfl dX10_addBarrel_49 ?_
  refine or_fT2v (cj7_fill_53178 (Z := Z)  h_x.2.2.2.2.2.2.2.1 ) E G F lk_10_151 dX10_addBarrel_50 (by decide) (by decide) ⟨(Nat.le_of_ble_eq_true rfl), (Nat.le_of_ble_eq_true rfl)⟩ (Nat.le_of_ble_eq_true rfl) (fun _ => ?_) (fun h => absurd h (Nat.lt_irrefl 0))
  obtain ⟨I2, hI2⟩ : ∃ y_ : ow_I, y_ = j7_fill_53178 (x + 561) l I1 := ⟨_, rfl⟩
  replace hk := lt_k (P := fun r : Int32 × ow_I => ox_e K S V z 0 (some (.int ((r).1))) ((r).2)) hI2 hk
  refine or_nmI hI2 ?_
  refine or_aload_n E rfl dX10_addBarrel_53 ?_
  refine ot_getC E fl_10_10 dX10_addBarrel_54 h_x.1 rfl ?_
  refine or_iload_n E rfl dX10_addBarrel_57 ?_
  refine or_aload_n E rfl dX10_addBarrel_58 ?_
  refine ot_getC E fl_10_41 dX10_addBarrel_59 h_x.1 rfl ?_
  refine or_iconst (v := nI 0) E rfl dX10_addBarrel_62 ?_
  refine or_iload_n E rfl dX10_addBarrel_63 ?_
  refine or_top (nI_tn (by subst hI2 hI1; exact (n0_le (by decide) h3))).symm ?_
  refine or_cV4r (cK_takeBarrel  h_x.2.1 h_x.2.2.2.2.2.2.2.1 (by subst hI2 hI1; exact (kV_eq (kV_rem hX) (fun b h1 h2 => rr_fill (by omega)))) (by subst hI2 hI1; decide) (by subst hI2 hI1; exact (tn_lt _))) E lk_10_157 dX10_addBarrel_64 h_x.2.1.1 rfl rfl (by decide) (by decide) ⟨(Nat.le_of_ble_eq_true rfl), (Nat.le_of_ble_eq_true rfl)⟩ (Nat.le_of_ble_eq_true rfl) ?_
  obtain ⟨r3, hr3⟩ : ∃ y_ : Int32 × ow_I, y_ = K_takeBarrel (x + 1) r (x + 561) 0 (tn n) I2 := ⟨_, rfl⟩
  replace hk := lt_k (P := fun r : Int32 × ow_I => ox_e K S V z 0 (some (.int ((r).1))) ((r).2)) hr3 hk
  refine or_nmJ hr3 ?_
  try dsimp only at hk
  exact or_xr E F (fun X' E' F' => or_iret E' F' dX10_addBarrel_67 (Nat.le_of_ble_eq_true rfl) (Nat.le_of_ble_eq_true rfl) (hk.1 rfl))
def A_queuedBarrel (x : Nat) (n : Int32) (I : ow_I) : Int32 :=
  if n < 0 then (-1) else if n < I (x + 1) 12 then I ((x + 1) + 4) (tn n) else (-1)
set_option maxRecDepth 100000 in
set_option maxHeartbeats 400000 in
theorem cA_queuedBarrel {Z : Nat → Nat} {S : Nat → Option ow_Sh} {I : ow_I} {V : Nat → Nat → Value} {z : Nat} {x : Nat} {n : Int32} (h_x : au_S S x) (hX : au_V x I) : ow_Cx Z yX10_queuedBarrel cX10_queuedBarrel 2 (some .int) 0 0 0 [.ref x, .int n] (S, I, V, z) (ox_s S V z 0 (some (.int (A_queuedBarrel x n I))) I) := by
  refine ow_Cx.off rfl (Nat.le_of_ble_eq_true rfl) (fun X K E G F hk => ?_)
  have E : ow_E X RX10 cX10_queuedBarrel 2 (ow_rm 0 0 0) := E
  refine or_lv [(0, .ref x), (1, .int n)] rfl ?_
  try dsimp only [A_queuedBarrel] at hk
  refine or_iload_n E rfl dX10_queuedBarrel_0 ?_
  refine or_if_lt 15 E dX10_queuedBarrel_1 rfl (fun q1 => ?_) (fun q1 => ?_)
  · replace hk := ite_p (P := fun r : Int32 => ox_e K S V z 0 (some (.int (r))) I) q1 hk
    refine or_iconst (v := -1) E rfl dX10_queuedBarrel_15 ?_
    exact or_xr E F (fun X' E' F' => or_iret E' F' dX10_queuedBarrel_16 (Nat.le_of_ble_eq_true rfl) (Nat.le_of_ble_eq_true rfl) (hk.1 rfl))
  · replace hk := ite_n (P := fun r : Int32 => ox_e K S V z 0 (some (.int (r))) I) q1 hk
    refine or_iload_n E rfl dX10_queuedBarrel_4 ?_
    refine or_aload_n E rfl dX10_queuedBarrel_5 ?_
    refine ot_getC E fl_10_10 dX10_queuedBarrel_6 h_x.1 rfl ?_
    refine ot_getI E fl_10_178 dX10_queuedBarrel_9 h_x.2.1.1 rfl ?_
    refine or_icmp_lt 17 E dX10_queuedBarrel_12 rfl (fun q12 => ?_) (fun q12 => ?_)
    · replace hk := ite_p (P := fun r : Int32 => ox_e K S V z 0 (some (.int (r))) I) q12 hk
      refine or_aload_n E rfl dX10_queuedBarrel_17 ?_
      refine ot_getC E fl_10_10 dX10_queuedBarrel_18 h_x.1 rfl ?_
      refine ot_getC E fl_10_259 dX10_queuedBarrel_21 h_x.2.1.1 rfl ?_
      refine or_iload_n E rfl dX10_queuedBarrel_24 ?_
      refine or_top (nI_tn (Int32.not_lt.mp q1)).symm ?_
      refine ot_iald (j := tn n) E dX10_queuedBarrel_25 h_x.2.1.2.2.2.2.1 rfl rfl (by have h9 := (lt_tn q12 (Int32.not_lt.mp q1)).2; have h8 := hX.1.2.2.1.2; omega) (Nat.le_of_ble_eq_true rfl) ?_
      exact or_xr E F (fun X' E' F' => or_iret E' F' dX10_queuedBarrel_26 (Nat.le_of_ble_eq_true rfl) (Nat.le_of_ble_eq_true rfl) (hk.1 rfl))
    · replace hk := ite_n (P := fun r : Int32 => ox_e K S V z 0 (some (.int (r))) I) q12 hk
      refine or_iconst (v := -1) E rfl dX10_queuedBarrel_15 ?_
      exact or_xr E F (fun X' E' F' => or_iret E' F' dX10_queuedBarrel_16 (Nat.le_of_ble_eq_true rfl) (Nat.le_of_ble_eq_true rfl) (hk.1 rfl))
def A_length (x : Nat) (b : Int32) (n : Int32) (I : ow_I) : Int32 :=
  I ((x + 1 + 11 + 2 * (tn b)) + 1) (tn n)
set_option maxRecDepth 100000 in
set_option maxHeartbeats 400000 in
theorem cA_length {Z : Nat → Nat} {S : Nat → Option ow_Sh} {I : ow_I} {V : Nat → Nat → Value} {z : Nat} {x : Nat} {b : Int32} {n : Int32} (h_x : au_S S x) (hX : au_V x I) (hb : 0 ≤ b ∧ tn b < tn (I (x + 1) 10)) (h0 : 0 ≤ n) (h1 : n < I (x + 1 + 11 + 2 * (tn b)) 1) : ow_Cx Z yX10_length cX10_length 4 (some .int) 3 0 0 [.ref x, .int b, .int n] (S, I, V, z) (ox_s S V z 0 (some (.int (A_length x b n I))) I) := by
  refine ow_Cx.off rfl (Nat.le_of_ble_eq_true rfl) (fun X K E G F hk => ?_)
  have E : ow_E X RX10 cX10_length 4 (ow_rm 3 0 0) := E
  refine or_lv [(0, .ref x), (1, .int b), (2, .int n)] rfl ?_
  have hV := hX.1
  try dsimp only [A_length] at hk
  refine or_aload_n E rfl dX10_length_0 ?_
  refine or_iload_n E rfl dX10_length_1 ?_
  refine or_fV1r (cA_barrelAt (Z := Z) h_x hV hb) E G F lk_10_262 dX10_length_2 h_x.1 rfl rfl (by decide) (by decide) ⟨(Nat.le_of_ble_eq_true rfl), (Nat.le_of_ble_eq_true rfl)⟩ (Nat.le_of_ble_eq_true rfl) (fun _ => ?_) (fun h => absurd h (Nat.lt_irrefl 0))
  refine or_astore_n E dX10_length_5 (by decide) ?_
  refine or_iload_n E rfl dX10_length_6 ?_
  refine or_if_lt 18 E dX10_length_7 rfl (fun q7 => (hr_1 h0) q7) (fun q7 => ?_)
  refine or_iload_n E rfl dX10_length_10 ?_
  refine or_aload_n E rfl dX10_length_11 ?_
  refine ot_getI E fl_10_266 dX10_length_12 (mk_br2 h_x.2.1 (lt20 hV hb)).1 rfl ?_
  refine or_icmp_lt 29 E dX10_length_15 rfl (fun q15 => ?_) (fun q15 => (hr_3 h1) q15)
  refine or_aload_n E rfl dX10_length_29 ?_
  refine ot_getC E fl_10_274 dX10_length_30 (mk_br2 h_x.2.1 (lt20 hV hb)).1 rfl ?_
  refine or_iload_n E rfl dX10_length_33 ?_
  refine or_top (nI_tn h0).symm ?_
  refine ot_iald (j := tn n) E dX10_length_34 (mk_br2 h_x.2.1 (lt20 hV hb)).2 rfl rfl (by have h9 := (lt_tn h1 h0).2; have h8 := (hX.1.2.2.2.2.2.2 (tn b) (lt20 hV hb)).2; omega) (Nat.le_of_ble_eq_true rfl) ?_
  exact or_xr E F (fun X' E' F' => or_iret E' F' dX10_length_35 (Nat.le_of_ble_eq_true rfl) (Nat.le_of_ble_eq_true rfl) (hk.1 rfl))
def A_middleLength (x : Nat) (b : Int32) (I : ow_I) : Int32 :=
  B_lengthAtRank (x + 1 + 11 + 2 * (tn b)) ((I (x + 1 + 11 + 2 * (tn b)) 1 - (nI 1)) / (nI 2)) I
set_option maxRecDepth 100000 in
set_option maxHeartbeats 400000 in
theorem cA_middleLength {Z : Nat → Nat} {S : Nat → Option ow_Sh} {I : ow_I} {V : Nat → Nat → Value} {z : Nat} {x : Nat} {b : Int32} (h_x : au_S S x) (hX : au_V x I) (hb : 0 ≤ b ∧ tn b < tn (I (x + 1) 10)) : ow_Cx Z yX10_middleLength cX10_middleLength 2 (some .int) 3 0 0 [.ref x, .int b] (S, I, V, z) (ox_s S V z 0 (some (.int (A_middleLength x b I))) I) := by
  refine ow_Cx.off rfl (Nat.le_of_ble_eq_true rfl) (fun X K E G F hk => ?_)
  have E : ow_E X RX10 cX10_middleLength 2 (ow_rm 3 0 0) := E
  refine or_lv [(0, .ref x), (1, .int b)] rfl ?_
  have hV := hX.1
  try dsimp only [A_middleLength] at hk
  refine or_aload_n E rfl dX10_middleLength_0 ?_
  refine or_iload_n E rfl dX10_middleLength_1 ?_
  refine or_fV1r (cA_barrelAt (Z := Z) h_x hV hb) E G F lk_10_262 dX10_middleLength_2 h_x.1 rfl rfl (by decide) (by decide) ⟨(Nat.le_of_ble_eq_true rfl), (Nat.le_of_ble_eq_true rfl)⟩ (Nat.le_of_ble_eq_true rfl) (fun _ => ?_) (fun h => absurd h (Nat.lt_irrefl 0))
  refine or_aload_n E rfl dX10_middleLength_5 ?_
  refine or_iload_n E rfl dX10_middleLength_6 ?_
  refine or_fV1r (cA_barrelAt (Z := Z) h_x hV hb) E G F lk_10_262 dX10_middleLength_7 h_x.1 rfl rfl (by decide) (by decide) ⟨(Nat.le_of_ble_eq_true rfl), (Nat.le_of_ble_eq_true rfl)⟩ (Nat.le_of_ble_eq_true rfl) (fun _ => ?_) (fun h => absurd h (Nat.lt_irrefl 0))
  refine ot_getI E fl_10_266 dX10_middleLength_10 (mk_br2 h_x.2.1 (lt20 hV hb)).1 rfl ?_
  refine or_iconst (v := nI 1) E rfl dX10_middleLength_13 ?_
  refine or_isub E dX10_middleLength_14 ?_
  refine or_iconst (v := nI 2) E rfl dX10_middleLength_15 ?_
  refine or_idiv E (by decide) dX10_middleLength_16 ?_
  refine or_cV1r (cB_lengthAtRank  (mk_br2 h_x.2.1 (lt20 hV hb)) (hX.1.2.2.2.2.2.2 (tn b) (lt20 hV hb)).1 (hX.1.2.2.2.2.2.2 (tn b) (lt20 hV hb)).2) E lk_10_283 dX10_middleLength_17 (mk_br2 h_x.2.1 (lt20 hV hb)).1 rfl rfl (by decide) (by decide) ⟨(Nat.le_of_ble_eq_true rfl), (Nat.le_of_ble_eq_true rfl)⟩ (Nat.le_of_ble_eq_true rfl) ?_
  exact or_xr E F (fun X' E' F' => or_iret E' F' dX10_middleLength_20 (Nat.le_of_ble_eq_true rfl) (Nat.le_of_ble_eq_true rfl) (hk.1 rfl))
def A_pricePerLength (x : Nat) (b : Int32) (I : ow_I) : UInt32 :=
  if I (x + 1 + 11 + 2 * (tn b)) 7 = nI 2 then if I (x + 1 + 11 + 2 * (tn b)) 2 = 0 then FP.fconst0 else FP.fdiv (FP.i2f (I (x + 1 + 11 + 2 * (tn b)) 9)) (FP.i2f (I (x + 1 + 11 + 2 * (tn b)) 2)) else FP.fconst0
set_option maxRecDepth 100000 in
set_option maxHeartbeats 400000 in
theorem cA_pricePerLength {Z : Nat → Nat} {S : Nat → Option ow_Sh} {I : ow_I} {V : Nat → Nat → Value} {z : Nat} {x : Nat} {b : Int32} (h_x : au_S S x) (hX : au_V x I) (hb : 0 ≤ b ∧ tn b < tn (I (x + 1) 10)) : ow_Cx Z yX10_pricePerLength cX10_pricePerLength 3 (some .float) 3 0 0 [.ref x, .int b] (S, I, V, z) (ox_s S V z 0 (some (.float (A_pricePerLength x b I))) I) := by
  refine ow_Cx.off rfl (Nat.le_of_ble_eq_true rfl) (fun X K E G F hk => ?_)
  have E : ow_E X RX10 cX10_pricePerLength 3 (ow_rm 3 0 0) := E
  refine or_lv [(0, .ref x), (1, .int b)] rfl ?_
  have hV := hX.1
  try dsimp only [A_pricePerLength] at hk
  refine or_aload_n E rfl dX10_pricePerLength_0 ?_
  refine or_iload_n E rfl dX10_pricePerLength_1 ?_
  refine or_fV1r (cA_barrelAt (Z := Z) h_x hV hb) E G F lk_10_262 dX10_pricePerLength_2 h_x.1 rfl rfl (by decide) (by decide) ⟨(Nat.le_of_ble_eq_true rfl), (Nat.le_of_ble_eq_true rfl)⟩ (Nat.le_of_ble_eq_true rfl) (fun _ => ?_) (fun h => absurd h (Nat.lt_irrefl 0))
  refine or_astore_n E dX10_pricePerLength_5 (by decide) ?_
  refine or_aload_n E rfl dX10_pricePerLength_6 ?_
  refine ot_getI E fl_10_286 dX10_pricePerLength_7 (mk_br2 h_x.2.1 (lt20 hV hb)).1 rfl ?_
  refine or_iconst (v := nI 2) E rfl dX10_pricePerLength_10 ?_
  refine or_icmp_ne 21 E dX10_pricePerLength_11 rfl (fun q11 => ?_) (fun q11 => ?_)
  · replace hk := ite_n (P := fun r : UInt32 => ox_e K S V z 0 (some (.float (r))) I) q11 hk
    refine or_fconst0 E dX10_pricePerLength_21 ?_
    exact or_xr E F (fun X' E' F' => or_fret E' F' dX10_pricePerLength_22 (Nat.le_of_ble_eq_true rfl) (Nat.le_of_ble_eq_true rfl) (hk.1 rfl))
  · replace hk := ite_p (P := fun r : UInt32 => ox_e K S V z 0 (some (.float (r))) I) q11 hk
    refine or_aload_n E rfl dX10_pricePerLength_14 ?_
    refine ot_getI E fl_10_277 dX10_pricePerLength_15 (mk_br2 h_x.2.1 (lt20 hV hb)).1 rfl ?_
    refine or_if_ne 23 E dX10_pricePerLength_18 rfl (fun q18 => ?_) (fun q18 => ?_)
    · replace hk := ite_n (P := fun r : UInt32 => ox_e K S V z 0 (some (.float (r))) I) q18 hk
      refine or_aload_n E rfl dX10_pricePerLength_23 ?_
      refine ot_getI E fl_10_295 dX10_pricePerLength_24 (mk_br2 h_x.2.1 (lt20 hV hb)).1 rfl ?_
      refine or_i2f E dX10_pricePerLength_27 ?_
      refine or_aload_n E rfl dX10_pricePerLength_28 ?_
      refine ot_getI E fl_10_277 dX10_pricePerLength_29 (mk_br2 h_x.2.1 (lt20 hV hb)).1 rfl ?_
      refine or_i2f E dX10_pricePerLength_32 ?_
      refine or_fdiv E (fp_ff q18) dX10_pricePerLength_33 ?_
      exact or_xr E F (fun X' E' F' => or_fret E' F' dX10_pricePerLength_34 (Nat.le_of_ble_eq_true rfl) (Nat.le_of_ble_eq_true rfl) (hk.1 rfl))
    · replace hk := ite_p (P := fun r : UInt32 => ox_e K S V z 0 (some (.float (r))) I) q18 hk
      refine or_fconst0 E dX10_pricePerLength_21 ?_
      exact or_xr E F (fun X' E' F' => or_fret E' F' dX10_pricePerLength_22 (Nat.le_of_ble_eq_true rfl) (Nat.le_of_ble_eq_true rfl) (hk.1 rfl))
def A_worth (x : Nat) (y : Int32) (b : Int32) (I : ow_I) : UInt64 :=
  Y_valueOf (x + 1 + 5 + (tn y)) (x + 1 + 11 + 2 * (tn b)) I
set_option maxRecDepth 100000 in
set_option maxHeartbeats 400000 in
theorem cA_worth {Z : Nat → Nat} {S : Nat → Option ow_Sh} {I : ow_I} {V : Nat → Nat → Value} {z : Nat} {x : Nat} {y : Int32} {b : Int32} (h_x : au_S S x) (hX : au_V x I) (hy : 0 ≤ y ∧ tn y < tn (I (x + 1) 8)) (hb : 0 ≤ b ∧ tn b < tn (I (x + 1) 10)) : ow_Cx Z yX10_worth cX10_worth 3 (some .double) 3 0 0 [.ref x, .int y, .int b] (S, I, V, z) (ox_s S V z 0 (some (.double (A_worth x y b I))) I) := by
  refine ow_Cx.off rfl (Nat.le_of_ble_eq_true rfl) (fun X K E G F hk => ?_)
  have E : ow_E X RX10 cX10_worth 3 (ow_rm 3 0 0) := E
  refine or_lv [(0, .ref x), (1, .int y), (2, .int b)] rfl ?_
  have hV := hX.1
  try dsimp only [A_worth] at hk
  refine or_aload_n E rfl dX10_worth_0 ?_
  refine or_iload_n E rfl dX10_worth_1 ?_
  refine or_fV1r (cA_buyerAt (Z := Z) h_x hV hy) E G F lk_10_298 dX10_worth_2 h_x.1 rfl rfl (by decide) (by decide) ⟨(Nat.le_of_ble_eq_true rfl), (Nat.le_of_ble_eq_true rfl)⟩ (Nat.le_of_ble_eq_true rfl) (fun _ => ?_) (fun h => absurd h (Nat.lt_irrefl 0))
  refine or_aload_n E rfl dX10_worth_5 ?_
  refine or_iload_n E rfl dX10_worth_6 ?_
  refine or_fV1r (cA_barrelAt (Z := Z) h_x hV hb) E G F lk_10_262 dX10_worth_7 h_x.1 rfl rfl (by decide) (by decide) ⟨(Nat.le_of_ble_eq_true rfl), (Nat.le_of_ble_eq_true rfl)⟩ (Nat.le_of_ble_eq_true rfl) (fun _ => ?_) (fun h => absurd h (Nat.lt_irrefl 0))
  refine or_cV1r (cY_valueOf  (mk_by2 h_x.2.1 (lt06 hV hy)) (mk_br2 h_x.2.1 (lt20 hV hb)) ) E lk_10_308 dX10_worth_10 (mk_by2 h_x.2.1 (lt06 hV hy)) rfl rfl (by decide) (by decide) ⟨(Nat.le_of_ble_eq_true rfl), (Nat.le_of_ble_eq_true rfl)⟩ (Nat.le_of_ble_eq_true rfl) ?_
  exact or_xr E F (fun X' E' F' => or_dret E' F' dX10_worth_13 (Nat.le_of_ble_eq_true rfl) (Nat.le_of_ble_eq_true rfl) (hk.1 rfl))
def A_whyNotNod (x : Nat) (y : Int32) (I : ow_I) : Int32 :=
  K_refusal (x + 1) y I
set_option maxRecDepth 100000 in
set_option maxHeartbeats 400000 in
theorem cA_whyNotNod {Z : Nat → Nat} {S : Nat → Option ow_Sh} {I : ow_I} {V : Nat → Nat → Value} {z : Nat} {x : Nat} {y : Int32} (h_x : au_S S x) (hX : au_V x I) (hy : 0 ≤ y ∧ tn y < tn (I (x + 1) 8)) : ow_Cx Z yX10_whyNotNod cX10_whyNotNod 2 (some .int) 2 0 0 [.ref x, .int y] (S, I, V, z) (ox_s S V z 0 (some (.int (A_whyNotNod x y I))) I) := by
  refine ow_Cx.off rfl (Nat.le_of_ble_eq_true rfl) (fun X K E G F hk => ?_)
  have E : ow_E X RX10 cX10_whyNotNod 2 (ow_rm 2 0 0) := E
  refine or_lv [(0, .ref x), (1, .int y)] rfl ?_
  try dsimp only [A_whyNotNod] at hk
  refine or_aload_n E rfl dX10_whyNotNod_0 ?_
  refine or_iload_n E rfl dX10_whyNotNod_1 ?_
  refine or_fV1v (cA_requireBuyer (Z := Z)  h_x hy) E G F lk_10_127 dX10_whyNotNod_2 h_x.1 rfl rfl (by decide) (by decide) ⟨(Nat.le_of_ble_eq_true rfl), (Nat.le_of_ble_eq_true rfl)⟩ (Nat.le_of_ble_eq_true rfl) (fun _ => ?_) (fun h => absurd h (Nat.lt_irrefl 0))
  refine or_aload_n E rfl dX10_whyNotNod_5 ?_
  refine ot_getC E fl_10_10 dX10_whyNotNod_6 h_x.1 rfl ?_
  refine or_iload_n E rfl dX10_whyNotNod_9 ?_
  refine or_cV1r (cK_refusal  h_x.2.1 hX.1) E lk_10_130 dX10_whyNotNod_10 h_x.2.1.1 rfl rfl (by decide) (by decide) ⟨(Nat.le_of_ble_eq_true rfl), (Nat.le_of_ble_eq_true rfl)⟩ (Nat.le_of_ble_eq_true rfl) ?_
  exact or_xr E F (fun X' E' F' => or_iret E' F' dX10_whyNotNod_13 (Nat.le_of_ble_eq_true rfl) (Nat.le_of_ble_eq_true rfl) (hk.1 rfl))
def A_keenestBuyer (x : Nat) (b : Int32) (I : ow_I) : Nat :=
  K_keenest (x + 1) (x + 1 + 11 + 2 * (tn b)) I
set_option maxRecDepth 100000 in
set_option maxHeartbeats 400000 in
theorem cA_keenestBuyer {Z : Nat → Nat} {S : Nat → Option ow_Sh} {I : ow_I} {V : Nat → Nat → Value} {z : Nat} {x : Nat} {b : Int32} (h_x : au_S S x) (hX : au_V x I) (hb : 0 ≤ b ∧ tn b < tn (I (x + 1) 10)) : ow_Cx Z yX10_keenestBuyer cX10_keenestBuyer 2 (some .int) 3 0 0 [.ref x, .int b] (S, I, V, z) (ox_s S V z 0 (some (.int (nI (A_keenestBuyer x b I)))) I) := by
  refine ow_Cx.off rfl (Nat.le_of_ble_eq_true rfl) (fun X K E G F hk => ?_)
  have E : ow_E X RX10 cX10_keenestBuyer 2 (ow_rm 3 0 0) := E
  refine or_lv [(0, .ref x), (1, .int b)] rfl ?_
  have hV := hX.1
  try dsimp only [A_keenestBuyer] at hk
  refine or_aload_n E rfl dX10_keenestBuyer_0 ?_
  refine ot_getC E fl_10_10 dX10_keenestBuyer_1 h_x.1 rfl ?_
  refine or_aload_n E rfl dX10_keenestBuyer_4 ?_
  refine or_iload_n E rfl dX10_keenestBuyer_5 ?_
  refine or_fV1r (cA_barrelAt (Z := Z) h_x hV hb) E G F lk_10_262 dX10_keenestBuyer_6 h_x.1 rfl rfl (by decide) (by decide) ⟨(Nat.le_of_ble_eq_true rfl), (Nat.le_of_ble_eq_true rfl)⟩ (Nat.le_of_ble_eq_true rfl) (fun _ => ?_) (fun h => absurd h (Nat.lt_irrefl 0))
  refine or_cV1r (cK_keenest  h_x.2.1 (mk_br2 h_x.2.1 (lt20 hV hb)) hX.1.1.1 hX.1.1.2) E lk_10_318 dX10_keenestBuyer_9 h_x.2.1.1 rfl rfl (by decide) (by decide) ⟨(Nat.le_of_ble_eq_true rfl), (Nat.le_of_ble_eq_true rfl)⟩ (Nat.le_of_ble_eq_true rfl) ?_
  exact or_xr E F (fun X' E' F' => or_iret E' F' dX10_keenestBuyer_12 (Nat.le_of_ble_eq_true rfl) (Nat.le_of_ble_eq_true rfl) (hk.1 rfl))
def A_coinError (x : Nat) (I : ow_I) : Int32 :=
  I (x + 1) 6 - (K_coinsInPurses (x + 1) I) - (I (x + 1) 4) - (I (x + 1) 5)
set_option maxRecDepth 100000 in
set_option maxHeartbeats 400000 in
theorem cA_coinError {Z : Nat → Nat} {S : Nat → Option ow_Sh} {I : ow_I} {V : Nat → Nat → Value} {z : Nat} {x : Nat} (h_x : au_S S x) (hX : au_V x I) : ow_Cx Z yX10_coinError cX10_coinError 1 (some .int) 1 0 0 [.ref x] (S, I, V, z) (ox_s S V z 0 (some (.int (A_coinError x I))) I) := by
  refine ow_Cx.off rfl (Nat.le_of_ble_eq_true rfl) (fun X K E G F hk => ?_)
  have E : ow_E X RX10 cX10_coinError 1 (ow_rm 1 0 0) := E
  refine or_lv [(0, .ref x)] rfl ?_
  try dsimp only [A_coinError] at hk
  refine or_aload_n E rfl dX10_coinError_0 ?_
  refine ot_getC E fl_10_10 dX10_coinError_1 h_x.1 rfl ?_
  refine ot_getI E fl_10_325 dX10_coinError_4 h_x.2.1.1 rfl ?_
  refine or_aload_n E rfl dX10_coinError_7 ?_
  refine ot_getC E fl_10_10 dX10_coinError_8 h_x.1 rfl ?_
  refine or_cV0r (cK_coinsInPurses  h_x.2.1 hX.1.1.1 hX.1.1.2) E lk_10_328 dX10_coinError_11 h_x.2.1.1 rfl rfl (by decide) (by decide) ⟨(Nat.le_of_ble_eq_true rfl), (Nat.le_of_ble_eq_true rfl)⟩ (Nat.le_of_ble_eq_true rfl) ?_
  refine or_isub E dX10_coinError_14 ?_
  refine or_aload_n E rfl dX10_coinError_15 ?_
  refine ot_getC E fl_10_10 dX10_coinError_16 h_x.1 rfl ?_
  refine ot_getI E fl_10_241 dX10_coinError_19 h_x.2.1.1 rfl ?_
  refine or_isub E dX10_coinError_22 ?_
  refine or_aload_n E rfl dX10_coinError_23 ?_
  refine ot_getC E fl_10_10 dX10_coinError_24 h_x.1 rfl ?_
  refine ot_getI E fl_10_244 dX10_coinError_27 h_x.2.1.1 rfl ?_
  refine or_isub E dX10_coinError_30 ?_
  exact or_xr E F (fun X' E' F' => or_iret E' F' dX10_coinError_31 (Nat.le_of_ble_eq_true rfl) (Nat.le_of_ble_eq_true rfl) (hk.1 rfl))
def A_meanLength_L6 (x : Nat) : Nat → ow_I → Int32 → Int32 → Nat → UInt64
  | 0, I, _, _, _ => 0
  | n + 1, I, l, e, i => if tn (I (x + 1) 10) ≤ i then if e = 0 then FP.dconst0 else FP.ddiv (FP.i2d l) (FP.i2d e) else A_meanLength_L6 x n I (l + (I ((x + 1) + 11 + 2 * i) 2)) (e + (I ((x + 1) + 11 + 2 * i) 1)) (i + 1)
def A_meanLength (x : Nat) (I : ow_I) : UInt64 :=
  A_meanLength_L6 x 21 I (nI 0) (nI 0) 0
set_option maxRecDepth 100000 in
set_option maxHeartbeats 400000 in
theorem cA_meanLength {Z : Nat → Nat} {S : Nat → Option ow_Sh} {I : ow_I} {V : Nat → Nat → Value} {z : Nat} {x : Nat} (h_x : au_S S x) (hX : au_V x I) : ow_Cx Z yX10_meanLength cX10_meanLength 4 (some .double) 0 0 0 [.ref x] (S, I, V, z) (ox_s S V z 0 (some (.double (A_meanLength x I))) I) := by
  refine ow_Cx.off rfl (Nat.le_of_ble_eq_true rfl) (fun X K E G F hk => ?_)
  have E : ow_E X RX10 cX10_meanLength 4 (ow_rm 0 0 0) := E
  refine or_lv [(0, .ref x)] rfl ?_
  have h10 := hX.1.2.1.2
  have L6 : ∀ (n : Nat) (I : ow_I) (l : Int32) (e : Int32) (i : Nat) (hX : au_V x I) (hi : i ≤ 20) (hm : 20 - i < n) (hk : ox_e K S V z 0 (some (.double (A_meanLength_L6 x n I l e i))) I), ow_W X 0 0 (S, I, V, z) 6 [(0, .ref x), (1, .int l), (2, .int e), (3, .int (nI i))] [] := by
    intro n
    induction n with
    | zero => intro I l e i hX hi hm; omega
    | succ n ih =>
      intro I l e i hX hi hm hk
      dsimp only [A_meanLength_L6] at hk
      have h10 := hX.1.2.1.2
      refine or_iload_n E rfl dX10_meanLength_6 ?_
      refine or_aload_n E rfl dX10_meanLength_7 ?_
      refine ot_getC E fl_10_10 dX10_meanLength_8 h_x.1 rfl ?_
      refine ot_getI E fl_10_104 dX10_meanLength_11 h_x.2.1.1 rfl ?_
      refine or_top (nI_tn hX.1.2.1.1).symm ?_
      refine or_icmp_geN 53 E dX10_meanLength_14 rfl (by omega) (by omega) (fun q14 => ?_) (fun q14 => ?_)
      · replace hk := ite_p (P := fun r : UInt64 => ox_e K S V z 0 (some (.double (r))) I) q14 hk
        refine or_iload_n E rfl dX10_meanLength_53 ?_
        refine or_if_ne 61 E dX10_meanLength_54 rfl (fun q54 => ?_) (fun q54 => ?_)
        · replace hk := ite_n (P := fun r : UInt64 => ox_e K S V z 0 (some (.double (r))) I) q54 hk
          refine or_iload_n E rfl dX10_meanLength_61 ?_
          refine or_i2d E dX10_meanLength_62 ?_
          refine or_iload_n E rfl dX10_meanLength_63 ?_
          refine or_i2d E dX10_meanLength_64 ?_
          refine or_ddiv E (fp_dd q54) dX10_meanLength_65 ?_
          exact or_xr E F (fun X' E' F' => or_dret E' F' dX10_meanLength_66 (Nat.le_of_ble_eq_true rfl) (Nat.le_of_ble_eq_true rfl) (hk.1 rfl))
        · replace hk := ite_p (P := fun r : UInt64 => ox_e K S V z 0 (some (.double (r))) I) q54 hk
          refine or_dconst0 E dX10_meanLength_57 ?_
          refine or_goto 66 E dX10_meanLength_58 rfl ?_
          exact or_xr E F (fun X' E' F' => or_dret E' F' dX10_meanLength_66 (Nat.le_of_ble_eq_true rfl) (Nat.le_of_ble_eq_true rfl) (hk.1 rfl))
      · replace hk := ite_n (P := fun r : UInt64 => ox_e K S V z 0 (some (.double (r))) I) q14 hk
        refine or_iload_n E rfl dX10_meanLength_17 ?_
        refine or_aload_n E rfl dX10_meanLength_18 ?_
        refine ot_getC E fl_10_10 dX10_meanLength_19 h_x.1 rfl ?_
        refine ot_getC E fl_10_194 dX10_meanLength_22 h_x.2.1.1 rfl ?_
        refine or_iload_n E rfl dX10_meanLength_25 ?_
        refine ot_aald (j := i) E dX10_meanLength_26 h_x.2.1.2.2.2.1 rfl rfl (by omega) (Nat.le_of_ble_eq_true rfl) ?_
        refine ot_getI E fl_10_277 dX10_meanLength_27 (h_x.2.1.2.2.2.2.2.2 i (by omega)).1 rfl ?_
        refine or_iadd E dX10_meanLength_30 ?_
        refine or_istore_n E dX10_meanLength_31 (by decide) ?_
        refine or_iload_n E rfl dX10_meanLength_32 ?_
        refine or_aload_n E rfl dX10_meanLength_33 ?_
        refine ot_getC E fl_10_10 dX10_meanLength_34 h_x.1 rfl ?_
        refine ot_getC E fl_10_194 dX10_meanLength_37 h_x.2.1.1 rfl ?_
        refine or_iload_n E rfl dX10_meanLength_40 ?_
        refine ot_aald (j := i) E dX10_meanLength_41 h_x.2.1.2.2.2.1 rfl rfl (by omega) (Nat.le_of_ble_eq_true rfl) ?_
        refine ot_getI E fl_10_266 dX10_meanLength_42 (h_x.2.1.2.2.2.2.2.2 i (by omega)).1 rfl ?_
        refine or_iadd E dX10_meanLength_45 ?_
        refine or_istore_n E dX10_meanLength_46 (by decide) ?_
        refine or_iincN (c := 1) E dX10_meanLength_47 rfl rfl (by decide) ?_
        refine or_goto 6 E dX10_meanLength_50 rfl ?_
        refine or_lv _ ?_ (ih _ _ _ _ hX (by omega) (by omega) hk)
        rfl
  try dsimp only [A_meanLength] at hk
  refine or_iconst (v := nI 0) E rfl dX10_meanLength_0 ?_
  refine or_istore_n E dX10_meanLength_1 (by decide) ?_
  refine or_iconst (v := nI 0) E rfl dX10_meanLength_2 ?_
  refine or_istore_n E dX10_meanLength_3 (by decide) ?_
  refine or_iconst (v := nI 0) E rfl dX10_meanLength_4 ?_
  refine or_istore_n E dX10_meanLength_5 (by decide) ?_
  refine or_lv _ ?_ (L6 21 _ _ _ _ hX (by decide) (by decide) hk)
  rfl
def A_soldShare_L4 (x : Nat) : Nat → ow_I → Nat → Nat → UInt32
  | 0, I, _, _ => 0
  | n + 1, I, c, i => if tn (I (x + 1) 10) ≤ i then if I (x + 1) 10 = 0 then FP.fconst0 else FP.fdiv (FP.i2f (nI c)) (FP.i2f (I (x + 1) 10)) else if I ((x + 1) + 11 + 2 * i) 7 = nI 2 then A_soldShare_L4 x n I (c + 1) (i + 1) else A_soldShare_L4 x n I c (i + 1)
def A_soldShare (x : Nat) (I : ow_I) : UInt32 :=
  A_soldShare_L4 x 21 I 0 0
set_option maxRecDepth 100000 in
set_option maxHeartbeats 400000 in
theorem cA_soldShare {Z : Nat → Nat} {S : Nat → Option ow_Sh} {I : ow_I} {V : Nat → Nat → Value} {z : Nat} {x : Nat} (h_x : au_S S x) (hX : au_V x I) : ow_Cx Z yX10_soldShare cX10_soldShare 3 (some .float) 0 0 0 [.ref x] (S, I, V, z) (ox_s S V z 0 (some (.float (A_soldShare x I))) I) := by
  refine ow_Cx.off rfl (Nat.le_of_ble_eq_true rfl) (fun X K E G F hk => ?_)
  have E : ow_E X RX10 cX10_soldShare 3 (ow_rm 0 0 0) := E
  refine or_lv [(0, .ref x)] rfl ?_
  have h10 := hX.1.2.1.2
  have L4 : ∀ (n : Nat) (I : ow_I) (c : Nat) (i : Nat) (hX : au_V x I) (hi : i ≤ 20) (hm : 20 - i < n) (hk : ox_e K S V z 0 (some (.float (A_soldShare_L4 x n I c i))) I), ow_W X 0 0 (S, I, V, z) 4 [(0, .ref x), (1, .int (nI c)), (2, .int (nI i))] [] := by
    intro n
    induction n with
    | zero => intro I c i hX hi hm; omega
    | succ n ih =>
      intro I c i hX hi hm hk
      dsimp only [A_soldShare_L4] at hk
      have h10 := hX.1.2.1.2
      refine or_iload_n E rfl dX10_soldShare_4 ?_
      refine or_aload_n E rfl dX10_soldShare_5 ?_
      refine ot_getC E fl_10_10 dX10_soldShare_6 h_x.1 rfl ?_
      refine ot_getI E fl_10_104 dX10_soldShare_9 h_x.2.1.1 rfl ?_
      refine or_top (nI_tn hX.1.2.1.1).symm ?_
      refine or_icmp_geN 40 E dX10_soldShare_12 rfl (by omega) (by omega) (fun q12 => ?_) (fun q12 => ?_)
      · replace hk := ite_p (P := fun r : UInt32 => ox_e K S V z 0 (some (.float (r))) I) q12 hk
        refine or_aload_n E rfl dX10_soldShare_40 ?_
        refine ot_getC E fl_10_10 dX10_soldShare_41 h_x.1 rfl ?_
        refine ot_getI E fl_10_104 dX10_soldShare_44 h_x.2.1.1 rfl ?_
        refine or_if_ne 54 E dX10_soldShare_47 rfl (fun q47 => ?_) (fun q47 => ?_)
        · replace hk := ite_n (P := fun r : UInt32 => ox_e K S V z 0 (some (.float (r))) I) q47 hk
          refine or_iload_n E rfl dX10_soldShare_54 ?_
          refine or_i2f E dX10_soldShare_55 ?_
          refine or_aload_n E rfl dX10_soldShare_56 ?_
          refine ot_getC E fl_10_10 dX10_soldShare_57 h_x.1 rfl ?_
          refine ot_getI E fl_10_104 dX10_soldShare_60 h_x.2.1.1 rfl ?_
          refine or_i2f E dX10_soldShare_63 ?_
          refine or_fdiv E (fp_ff q47) dX10_soldShare_64 ?_
          exact or_xr E F (fun X' E' F' => or_fret E' F' dX10_soldShare_65 (Nat.le_of_ble_eq_true rfl) (Nat.le_of_ble_eq_true rfl) (hk.1 rfl))
        · replace hk := ite_p (P := fun r : UInt32 => ox_e K S V z 0 (some (.float (r))) I) q47 hk
          refine or_fconst0 E dX10_soldShare_50 ?_
          refine or_goto 65 E dX10_soldShare_51 rfl ?_
          exact or_xr E F (fun X' E' F' => or_fret E' F' dX10_soldShare_65 (Nat.le_of_ble_eq_true rfl) (Nat.le_of_ble_eq_true rfl) (hk.1 rfl))
      · replace hk := ite_n (P := fun r : UInt32 => ox_e K S V z 0 (some (.float (r))) I) q12 hk
        refine or_aload_n E rfl dX10_soldShare_15 ?_
        refine ot_getC E fl_10_10 dX10_soldShare_16 h_x.1 rfl ?_
        refine ot_getC E fl_10_194 dX10_soldShare_19 h_x.2.1.1 rfl ?_
        refine or_iload_n E rfl dX10_soldShare_22 ?_
        refine ot_aald (j := i) E dX10_soldShare_23 h_x.2.1.2.2.2.1 rfl rfl (by omega) (Nat.le_of_ble_eq_true rfl) ?_
        refine ot_getI E fl_10_286 dX10_soldShare_24 (h_x.2.1.2.2.2.2.2.2 i (by omega)).1 rfl ?_
        refine or_iconst (v := nI 2) E rfl dX10_soldShare_27 ?_
        refine or_icmp_ne 34 E dX10_soldShare_28 rfl (fun q28 => ?_) (fun q28 => ?_)
        · replace hk := ite_n (P := fun r : UInt32 => ox_e K S V z 0 (some (.float (r))) I) q28 hk
          refine or_iincN (c := 1) E dX10_soldShare_34 rfl rfl (by decide) ?_
          refine or_goto 4 E dX10_soldShare_37 rfl ?_
          refine or_lv _ ?_ (ih _ _ _ hX (by omega) (by omega) hk)
          rfl
        · replace hk := ite_p (P := fun r : UInt32 => ox_e K S V z 0 (some (.float (r))) I) q28 hk
          refine or_iincN (c := 1) E dX10_soldShare_31 rfl rfl (by decide) ?_
          refine or_iincN (c := 1) E dX10_soldShare_34 rfl rfl (by decide) ?_
          refine or_goto 4 E dX10_soldShare_37 rfl ?_
          refine or_lv _ ?_ (ih _ _ _ hX (by omega) (by omega) hk)
          rfl
  try dsimp only [A_soldShare] at hk
  refine or_iconst (v := nI 0) E rfl dX10_soldShare_0 ?_
  refine or_istore_n E dX10_soldShare_1 (by decide) ?_
  refine or_iconst (v := nI 0) E rfl dX10_soldShare_2 ?_
  refine or_istore_n E dX10_soldShare_3 (by decide) ?_
  refine or_lv _ ?_ (L4 21 _ _ _ hX (by decide) (by decide) hk)
  rfl
def A_foresee (x : Nat) (s : Int32) (n : Nat) (I : ow_I) : ow_I :=
  lt (K_copyFrom (x + 52) (x + 1) I) (fun (I1 : ow_I) => lt (ow_u I1 (x + 52) 2 s) (fun (I2 : ow_I) => lt (K_letPass (x + 52) n I2) (fun (r3 : Int32 × ow_I) => r3.2)))
set_option maxRecDepth 100000 in
set_option maxHeartbeats 400000 in
theorem cA_foresee {Z : Nat → Nat} {S : Nat → Option ow_Sh} {I : ow_I} {V : Nat → Nat → Value} {z : Nat} {x : Nat} {s : Int32} {n : Nat} (h_x : au_S S x) (hV : k_V (x + 1) I) (hW : k_V (x + 52) I) (hn : n < 2 ^ 31) : ow_Cx Z yX10_foresee cX10_foresee 3 none 5 0 0 [.ref x, .int s, .int (nI n)] (S, I, V, z) (ox_s S V z 0 none (A_foresee x s n I)) := by
  refine ow_Cx.off rfl (Nat.le_of_ble_eq_true rfl) (fun X K E G F hk => ?_)
  have E : ow_E X RX10 cX10_foresee 3 (ow_rm 5 0 0) := E
  refine or_lv [(0, .ref x), (1, .int s), (2, .int (nI n))] rfl ?_
  try dsimp only [A_foresee] at hk
  refine or_aload_n E rfl dX10_foresee_0 ?_
  refine ot_getC E fl_10_16 dX10_foresee_1 h_x.1 rfl ?_
  refine or_aload_n E rfl dX10_foresee_4 ?_
  refine ot_getC E fl_10_10 dX10_foresee_5 h_x.1 rfl ?_
  refine or_cV1v (cK_copyFrom  h_x.2.2.1 h_x.2.1 (by omega) hV.1.1 hV.1.2 hV.2.1.1 hV.2.1.2) E lk_10_101 dX10_foresee_8 h_x.2.2.1.1 rfl rfl (by decide) (by decide) ⟨(Nat.le_of_ble_eq_true rfl), (Nat.le_of_ble_eq_true rfl)⟩ (Nat.le_of_ble_eq_true rfl) ?_
  obtain ⟨I1, hI1⟩ : ∃ y_ : ow_I, y_ = K_copyFrom (x + 52) (x + 1) I := ⟨_, rfl⟩
  replace hk := lt_k (P := fun r : ow_I => ox_e K S V z 0 none r) hI1 hk
  refine or_nmI hI1 ?_
  refine or_aload_n E rfl dX10_foresee_11 ?_
  refine ot_getC E fl_10_16 dX10_foresee_12 h_x.1 rfl ?_
  refine or_iload_n E rfl dX10_foresee_15 ?_
  refine ot_putI E fl_10_203 fw_6_2 dX10_foresee_16 h_x.2.2.1.1 rfl ?_
  obtain ⟨I2, hI2⟩ : ∃ y_ : ow_I, y_ = ow_u I1 (x + 52) 2 s := ⟨_, rfl⟩
  replace hk := lt_k (P := fun r : ow_I => ox_e K S V z 0 none r) hI2 hk
  refine or_nmI hI2 ?_
  refine or_aload_n E rfl dX10_foresee_19 ?_
  refine ot_getC E fl_10_16 dX10_foresee_20 h_x.1 rfl ?_
  refine or_iload_n E rfl dX10_foresee_23 ?_
  refine or_cV1r (cK_letPass  h_x.2.2.1 (by subst hI2 hI1; exact hn) (by subst hI2 hI1; exact (fun n => kV_it n _ (kV_a (kV_sc hV hW) (by decide))))) E lk_10_144 dX10_foresee_24 h_x.2.2.1.1 rfl rfl (by decide) (by decide) ⟨(Nat.le_of_ble_eq_true rfl), (Nat.le_of_ble_eq_true rfl)⟩ (Nat.le_of_ble_eq_true rfl) ?_
  obtain ⟨r3, hr3⟩ : ∃ y_ : Int32 × ow_I, y_ = K_letPass (x + 52) n I2 := ⟨_, rfl⟩
  replace hk := lt_k (P := fun r : ow_I => ox_e K S V z 0 none r) hr3 hk
  refine or_nmJ hr3 ?_
  refine or_pop E rfl dX10_foresee_27 ?_
  exact or_xr E F (fun X' E' F' => or_vret E' F' dX10_foresee_28 (Nat.le_of_ble_eq_true rfl) (Nat.le_of_ble_eq_true rfl) (hk.1 rfl))
def A_sellerCoinsAfter (x : Nat) (m : Int32) (I : ow_I) : Int32 × ow_I :=
  lt (A_foresee x (I (x + 1) 2) (tn m) I) (fun (I1 : ow_I) => (I1 (x + 52) 4, I1))
set_option maxRecDepth 100000 in
set_option maxHeartbeats 400000 in
theorem cA_sellerCoinsAfter {Z : Nat → Nat} {S : Nat → Option ow_Sh} {I : ow_I} {V : Nat → Nat → Value} {z : Nat} {x : Nat} {m : Int32} (h_x : au_S S x) (hX : au_V x I) (h1 : nI 0 ≤ m) (h2 : m ≤ nI 500) : ow_Cx Z yX10_sellerCoinsAfter cX10_sellerCoinsAfter 2 (some .int) 6 0 0 [.ref x, .int m] (S, I, V, z) (ox_s S V z 0 (some (.int ((A_sellerCoinsAfter x m I).1))) ((A_sellerCoinsAfter x m I).2)) := by
  refine ow_Cx.off rfl (Nat.le_of_ble_eq_true rfl) (fun X K E G F hk => ?_)
  have E : ow_E X RX10 cX10_sellerCoinsAfter 2 (ow_rm 6 0 0) := E
  refine or_lv [(0, .ref x), (1, .int m)] rfl ?_
  try dsimp only [A_sellerCoinsAfter] at hk
  refine or_iload_n E rfl dX10_sellerCoinsAfter_0 ?_
  refine or_iconst (v := nI 0) E rfl dX10_sellerCoinsAfter_1 ?_
  refine or_sipush (v := nI 500) E rfl dX10_sellerCoinsAfter_2 ?_
  refine or_fT3v (cA_requireRange (Z := Z)   h1 h2) E G F lk_10_82 dX10_sellerCoinsAfter_5 (by decide) (by decide) ⟨(Nat.le_of_ble_eq_true rfl), (Nat.le_of_ble_eq_true rfl)⟩ (Nat.le_of_ble_eq_true rfl) (fun _ => ?_) (fun h => absurd h (Nat.lt_irrefl 0))
  refine or_aload_n E rfl dX10_sellerCoinsAfter_8 ?_
  refine or_aload_n E rfl dX10_sellerCoinsAfter_9 ?_
  refine ot_getC E fl_10_10 dX10_sellerCoinsAfter_10 h_x.1 rfl ?_
  refine ot_getI E fl_10_203 dX10_sellerCoinsAfter_13 h_x.2.1.1 rfl ?_
  refine or_iload_n E rfl dX10_sellerCoinsAfter_16 ?_
  refine or_top (nI_tn (n0_le (by decide) h1)).symm ?_
  refine or_fV2v (cA_foresee (Z := Z)  h_x hX.1 hX.2.1 (tn_lt _)) E G F lk_10_322 dX10_sellerCoinsAfter_17 h_x.1 rfl rfl (by decide) (by decide) ⟨(Nat.le_of_ble_eq_true rfl), (Nat.le_of_ble_eq_true rfl)⟩ (Nat.le_of_ble_eq_true rfl) (fun _ => ?_) (fun h => absurd h (Nat.lt_irrefl 0))
  obtain ⟨I1, hI1⟩ : ∃ y_ : ow_I, y_ = A_foresee x (I (x + 1) 2) (tn m) I := ⟨_, rfl⟩
  replace hk := lt_k (P := fun r : Int32 × ow_I => ox_e K S V z 0 (some (.int ((r).1))) ((r).2)) hI1 hk
  refine or_nmI hI1 ?_
  refine or_aload_n E rfl dX10_sellerCoinsAfter_20 ?_
  refine ot_getC E fl_10_16 dX10_sellerCoinsAfter_21 h_x.1 rfl ?_
  refine ot_getI E fl_10_241 dX10_sellerCoinsAfter_24 h_x.2.2.1.1 rfl ?_
  try dsimp only at hk
  exact or_xr E F (fun X' E' F' => or_iret E' F' dX10_sellerCoinsAfter_27 (Nat.le_of_ble_eq_true rfl) (Nat.le_of_ble_eq_true rfl) (hk.1 rfl))
def A_buyerAfter (x : Nat) (b : Int32) (m : Int32) (I : ow_I) : Int32 × ow_I :=
  lt (A_foresee x (I (x + 1) 2) (tn m) I) (fun (I1 : ow_I) => (I1 ((x + 52) + 11 + 2 * (tn b)) 8, I1))
set_option maxRecDepth 100000 in
set_option maxHeartbeats 400000 in
theorem cA_buyerAfter {Z : Nat → Nat} {S : Nat → Option ow_Sh} {I : ow_I} {V : Nat → Nat → Value} {z : Nat} {x : Nat} {b : Int32} {m : Int32} (h_x : au_S S x) (hX : au_V x I) (hb : 0 ≤ b ∧ tn b < tn (I (x + 1) 10)) (h1 : nI 0 ≤ m) (h2 : m ≤ nI 500) : ow_Cx Z yX10_buyerAfter cX10_buyerAfter 3 (some .int) 6 0 0 [.ref x, .int b, .int m] (S, I, V, z) (ox_s S V z 0 (some (.int ((A_buyerAfter x b m I).1))) ((A_buyerAfter x b m I).2)) := by
  refine ow_Cx.off rfl (Nat.le_of_ble_eq_true rfl) (fun X K E G F hk => ?_)
  have E : ow_E X RX10 cX10_buyerAfter 3 (ow_rm 6 0 0) := E
  refine or_lv [(0, .ref x), (1, .int b), (2, .int m)] rfl ?_
  have hV := hX.1
  try dsimp only [A_buyerAfter] at hk
  refine or_aload_n E rfl dX10_buyerAfter_0 ?_
  refine or_iload_n E rfl dX10_buyerAfter_1 ?_
  refine or_fV1v (cA_requireBarrel (Z := Z)  h_x hb) E G F lk_10_161 dX10_buyerAfter_2 h_x.1 rfl rfl (by decide) (by decide) ⟨(Nat.le_of_ble_eq_true rfl), (Nat.le_of_ble_eq_true rfl)⟩ (Nat.le_of_ble_eq_true rfl) (fun _ => ?_) (fun h => absurd h (Nat.lt_irrefl 0))
  refine or_iload_n E rfl dX10_buyerAfter_5 ?_
  refine or_iconst (v := nI 0) E rfl dX10_buyerAfter_6 ?_
  refine or_sipush (v := nI 500) E rfl dX10_buyerAfter_7 ?_
  refine or_fT3v (cA_requireRange (Z := Z)   h1 h2) E G F lk_10_82 dX10_buyerAfter_10 (by decide) (by decide) ⟨(Nat.le_of_ble_eq_true rfl), (Nat.le_of_ble_eq_true rfl)⟩ (Nat.le_of_ble_eq_true rfl) (fun _ => ?_) (fun h => absurd h (Nat.lt_irrefl 0))
  refine or_aload_n E rfl dX10_buyerAfter_13 ?_
  refine or_aload_n E rfl dX10_buyerAfter_14 ?_
  refine ot_getC E fl_10_10 dX10_buyerAfter_15 h_x.1 rfl ?_
  refine ot_getI E fl_10_203 dX10_buyerAfter_18 h_x.2.1.1 rfl ?_
  refine or_iload_n E rfl dX10_buyerAfter_21 ?_
  refine or_top (nI_tn (n0_le (by decide) h1)).symm ?_
  refine or_fV2v (cA_foresee (Z := Z)  h_x hX.1 hX.2.1 (tn_lt _)) E G F lk_10_322 dX10_buyerAfter_22 h_x.1 rfl rfl (by decide) (by decide) ⟨(Nat.le_of_ble_eq_true rfl), (Nat.le_of_ble_eq_true rfl)⟩ (Nat.le_of_ble_eq_true rfl) (fun _ => ?_) (fun h => absurd h (Nat.lt_irrefl 0))
  obtain ⟨I1, hI1⟩ : ∃ y_ : ow_I, y_ = A_foresee x (I (x + 1) 2) (tn m) I := ⟨_, rfl⟩
  replace hk := lt_k (P := fun r : Int32 × ow_I => ox_e K S V z 0 (some (.int ((r).1))) ((r).2)) hI1 hk
  refine or_nmI hI1 ?_
  refine or_aload_n E rfl dX10_buyerAfter_25 ?_
  refine ot_getC E fl_10_16 dX10_buyerAfter_26 h_x.1 rfl ?_
  refine ot_getC E fl_10_194 dX10_buyerAfter_29 h_x.2.2.1.1 rfl ?_
  refine or_iload_n E rfl dX10_buyerAfter_32 ?_
  refine or_top (nI_tn (by subst hI1; exact hb.1)).symm ?_
  refine ot_aald (j := tn b) E dX10_buyerAfter_33 h_x.2.2.1.2.2.2.1 rfl rfl (by subst hI1; exact (lt20 hV hb)) (Nat.le_of_ble_eq_true rfl) ?_
  refine ot_getI E fl_10_292 dX10_buyerAfter_34 (h_x.2.2.1.2.2.2.2.2.2 (tn b) (by subst hI1; exact (lt20 hV hb))).1 rfl ?_
  try dsimp only at hk
  exact or_xr E F (fun X' E' F' => or_iret E' F' dX10_buyerAfter_37 (Nat.le_of_ble_eq_true rfl) (Nat.le_of_ble_eq_true rfl) (hk.1 rfl))
