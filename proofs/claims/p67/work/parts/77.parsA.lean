/-! THE PARSER: its cells; its methods, leaves first (laid by wip/whole/class8.py) -/
def cm_k (c : Nat) : Nat → Option (Option Value) := fun k => match k with
  | 0 => some none
  | 3 => some (some (.ref (c + 1)))
  | _ => none
def cm_S (S : Nat → Option ow_Sh) (c : Nat) : Prop := S c = some (.inl (3, cm_k c)) ∧ S (c + 1) = some (.inr (.int, 9, ow_n))
def ps_k (p : Nat) : Nat → Option (Option Value) := fun k => match k with
  | 0 => some (some (.ref (p + 1)))
  | 1 => some (some (.ref (p + 3)))
  | 2 => some (some (.ref (p + 4)))
  | _ => none
def ps_cm (p : Nat) : Nat → Option (Option Value) := fun j => some (some (.ref (p + 6 + 2 * j)))
def ps_S (S : Nat → Option ow_Sh) (p : Nat) : Prop := S p = some (.inl (7, ps_k p)) ∧ in_S S (p + 1) ∧ S (p + 3) = some (.inr (.object "LowWaterAuction$Command", 20, ps_cm p)) ∧ cm_S S (p + 4) ∧ ∀ i, i < 20 → cm_S S (p + 6 + 2 * i)
theorem kV_eq {a : Nat} {I J : ow_I} (hV : k_V a I) (h : ∀ b, a ≤ b → b < a + 51 → J b = I b) : k_V a J := by
  obtain ⟨q1, q2, q3, q4, q5, q6, q7⟩ := hV
  have e := h a (by omega) (by omega)
  have e4 := h (a + 4) (by omega) (by omega)
  refine ⟨by rw [e]; exact q1, by rw [e]; exact q2, by rw [e]; exact q3, by rw [e]; exact q4, by rw [e]; exact q5, by rw [e, e4]; exact q6, fun j hj => ?_⟩
  rw [h _ (by omega) (by omega)]
  exact q7 j hj
theorem in_row {f g : Nat → Int32} (h : in_R f) (e : g = f) : in_R g := by rw [e]; exact h
theorem fl_7_12 : ow_fl RX7 12 7 0 := ⟨_, rfl, by decide, ow_T_in 305 (by decide +kernel) (by decide +kernel), ow_ok7⟩
theorem fl_7_29 : ow_fl RX7 29 7 6 := ⟨_, rfl, by decide, ow_T_in 311 (by decide +kernel) (by decide +kernel), ow_ok7⟩
theorem fl_7_51 : ow_fl RX7 51 5 2 := ⟨_, rfl, by decide, ow_T_in 259 (by decide +kernel) (by decide +kernel), ow_ok5⟩
theorem fl_7_80 : ow_fl RX7 80 7 5 := ⟨_, rfl, by decide, ow_T_in 310 (by decide +kernel) (by decide +kernel), ow_ok7⟩
theorem fl_7_100 : ow_fl RX7 100 7 4 := ⟨_, rfl, by decide, ow_T_in 309 (by decide +kernel) (by decide +kernel), ow_ok7⟩
theorem fl_7_184 : ow_fl RX7 184 5 5 := ⟨_, rfl, by decide, ow_T_in 265 (by decide +kernel) (by decide +kernel), ow_ok5⟩
theorem fl_7_187 : ow_fl RX7 187 5 3 := ⟨_, rfl, by decide, ow_T_in 262 (by decide +kernel) (by decide +kernel), ow_ok5⟩
theorem fw_7_4 : ∃ r : vw_C, ow_cl[7]? = some r ∧ (r.2.1 4).2.2.2 = false ∧ parseFieldDescriptor (r.2.1 4).2.2.1 = some .int := ⟨_, rfl, rfl, by decide +kernel⟩
theorem fw_7_5 : ∃ r : vw_C, ow_cl[7]? = some r ∧ (r.2.1 5).2.2.2 = false ∧ parseFieldDescriptor (r.2.1 5).2.2.1 = some .int := ⟨_, rfl, rfl, by decide +kernel⟩
theorem fw_7_6 : ∃ r : vw_C, ow_cl[7]? = some r ∧ (r.2.1 6).2.2.2 = false ∧ parseFieldDescriptor (r.2.1 6).2.2.1 = some .int := ⟨_, rfl, rfl, by decide +kernel⟩
theorem lk_7_54 : ow_lv RX7 54 yX7_fail cX7_fail 2 (some .boolean) 1 := ⟨ow_T_in 460 (by decide +kernel) (by decide +kernel), ow_T_in 462 (by decide +kernel) (by decide +kernel), ow_T_sel 6 (by decide +kernel) (by decide +kernel), ow_T_in 7 (by decide +kernel) (by decide +kernel), ow_T_in 463 (by decide +kernel) (by decide +kernel), ⟨by decide +kernel, by decide +kernel, by decide +kernel⟩⟩
theorem lk_7_65 : ow_lv RX7 65 yX5_advance cX5_advance 2 none 0 := ⟨ow_T_in 464 (by decide +kernel) (by decide +kernel), ow_T_in 428 (by decide +kernel) (by decide +kernel), ow_T_in 429 (by decide +kernel) (by decide +kernel), ow_T_in 8 (by decide +kernel) (by decide +kernel), ow_T_in 430 (by decide +kernel) (by decide +kernel), ⟨by decide +kernel, by decide +kernel, by decide +kernel⟩⟩
theorem lk_7_83 : ow_lv RX7 83 yX5_restart cX5_restart 1 none 0 := ⟨ow_T_in 423 (by decide +kernel) (by decide +kernel), ow_T_in 424 (by decide +kernel) (by decide +kernel), ow_T_in 425 (by decide +kernel) (by decide +kernel), ow_T_in 8 (by decide +kernel) (by decide +kernel), ow_T_in 426 (by decide +kernel) (by decide +kernel), ⟨by decide +kernel, by decide +kernel, by decide +kernel⟩⟩
theorem lk_7_152 : ow_lv RX7 152 yX7_isInRange cX7_isInRange 3 (some .boolean) 2 := ⟨ow_T_in 469 (by decide +kernel) (by decide +kernel), ow_T_in 471 (by decide +kernel) (by decide +kernel), ow_T_sel 8 (by decide +kernel) (by decide +kernel), ow_T_in 7 (by decide +kernel) (by decide +kernel), ow_T_in 472 (by decide +kernel) (by decide +kernel), ⟨by decide +kernel, by decide +kernel, by decide +kernel⟩⟩
def Q_fail (p : Nat) (c : Int32) (I : ow_I) : Bool × ow_I :=
  lt (ow_u I p 5 c) (fun (I1 : ow_I) => lt (ow_u I1 p 6 (I1 (p + 1) 3)) (fun (I2 : ow_I) => (false, I2)))
set_option maxRecDepth 100000 in
set_option maxHeartbeats 400000 in
theorem cQ_fail {S : Nat → Option ow_Sh} {I : ow_I} {V : Nat → Nat → Value} {z : Nat} {p : Nat} {c : Int32} (h_p : ps_S S p)  : ow_Cf yX7_fail cX7_fail 2 (some .boolean) 0 [.ref p, .int c] (S, I, V, z) (some (.int (bi ((Q_fail p c I).1)))) (S, (Q_fail p c I).2, V, z) := by
  refine ow_Cf.of rfl (Nat.le_of_ble_eq_true rfl) (fun X K E F hk => ?_)
  have E : ow_E X RX7 cX7_fail 2 (ow_rm 0 0 0) := E
  refine or_lv [(0, .ref p), (1, .int c)] rfl ?_
  dsimp only [Q_fail] at hk
  refine or_aload_n E rfl dX7_fail_0 ?_
  refine or_iload_n E rfl dX7_fail_1 ?_
  refine ot_putI E fl_7_80 fw_7_5 dX7_fail_2 h_p.1 rfl ?_
  obtain ⟨I1, hI1⟩ : ∃ y_ : ow_I, y_ = ow_u I p 5 c := ⟨_, rfl⟩
  replace hk := lt_k (P := fun r : Bool × ow_I => K (some (.int (bi ((r).1)))) (S, (r).2, V, z)) hI1 hk
  refine or_nmI hI1 ?_
  refine or_aload_n E rfl dX7_fail_5 ?_
  refine or_aload_n E rfl dX7_fail_6 ?_
  refine ot_getC E fl_7_12 dX7_fail_7 h_p.1 rfl ?_
  refine ot_getI E fl_7_187 dX7_fail_10 h_p.2.1.1 rfl ?_
  refine ot_putI E fl_7_29 fw_7_6 dX7_fail_13 h_p.1 rfl ?_
  obtain ⟨I2, hI2⟩ : ∃ y_ : ow_I, y_ = ow_u I1 p 6 (I1 (p + 1) 3) := ⟨_, rfl⟩
  replace hk := lt_k (P := fun r : Bool × ow_I => K (some (.int (bi ((r).1)))) (S, (r).2, V, z)) hI2 hk
  refine or_nmI hI2 ?_
  refine or_iconst (v := nI 0) E rfl dX7_fail_16 ?_
  try dsimp only at hk
  exact or_zret E F dX7_fail_17 (Nat.le_refl _) (Nat.le_refl _) (bi_nar false) hk
def Q_begin (p : Nat) (I : ow_I) : ow_I :=
  lt (ow_u I p 5 (nI 0)) (fun (I1 : ow_I) => lt (ow_u I1 p 6 ((-1))) (fun (I2 : ow_I) => lt (U_restart (p + 1) I2) (fun (I3 : ow_I) => I3)))
set_option maxRecDepth 100000 in
set_option maxHeartbeats 400000 in
theorem cQ_begin {S : Nat → Option ow_Sh} {I : ow_I} {V : Nat → Nat → Value} {z : Nat} {p : Nat} (h_p : ps_S S p) (hi : in_R (I (p + 1))) : ow_Cf yX7_begin cX7_begin 1 none 3 [.ref p] (S, I, V, z) none (S, Q_begin p I, V, z) := by
  refine ow_Cf.of rfl (Nat.le_of_ble_eq_true rfl) (fun X K E F hk => ?_)
  have E : ow_E X RX7 cX7_begin 1 (ow_rm 3 0 0) := E
  refine or_lv [(0, .ref p)] rfl ?_
  dsimp only [Q_begin] at hk
  refine or_aload_n E rfl dX7_begin_0 ?_
  refine or_iconst (v := nI 0) E rfl dX7_begin_1 ?_
  refine ot_putI E fl_7_80 fw_7_5 dX7_begin_2 h_p.1 rfl ?_
  obtain ⟨I1, hI1⟩ : ∃ y_ : ow_I, y_ = ow_u I p 5 (nI 0) := ⟨_, rfl⟩
  replace hk := lt_k (P := fun r : ow_I => K none (S, r, V, z)) hI1 hk
  refine or_nmI hI1 ?_
  refine or_aload_n E rfl dX7_begin_5 ?_
  refine or_iconst (v := -1) E rfl dX7_begin_6 ?_
  refine ot_putI E fl_7_29 fw_7_6 dX7_begin_7 h_p.1 rfl ?_
  obtain ⟨I2, hI2⟩ : ∃ y_ : ow_I, y_ = ow_u I1 p 6 ((-1)) := ⟨_, rfl⟩
  replace hk := lt_k (P := fun r : ow_I => K none (S, r, V, z)) hI2 hk
  refine or_nmI hI2 ?_
  refine or_aload_n E rfl dX7_begin_10 ?_
  refine ot_getC E fl_7_12 dX7_begin_11 h_p.1 rfl ?_
  refine or_cV0v (cU_restart  h_p.2.1 (by subst hI2 hI1; (try simp (disch := omega) only [rr_u]); exact hi.1.1) (by subst hI2 hI1; (try simp (disch := omega) only [rr_u]); exact hi.1.2)) E lk_7_83 dX7_begin_14 h_p.2.1.1 rfl rfl (by decide) (by decide) ⟨Nat.le_refl _, Nat.le_refl _⟩ (Nat.le_of_ble_eq_true rfl) ?_
  obtain ⟨I3, hI3⟩ : ∃ y_ : ow_I, y_ = U_restart (p + 1) I2 := ⟨_, rfl⟩
  replace hk := lt_k (P := fun r : ow_I => K none (S, r, V, z)) hI3 hk
  refine or_nmI hI3 ?_
  exact or_vret E F dX7_begin_17 (Nat.le_refl _) (Nat.le_refl _) hk
def Q_isInRange (p : Nat) (l : Int32) (m : Int32) (I : ow_I) : Bool :=
  if I (p + 1) 5 < l then false else if m < I (p + 1) 5 then false else true
set_option maxRecDepth 100000 in
set_option maxHeartbeats 400000 in
theorem cQ_isInRange {S : Nat → Option ow_Sh} {I : ow_I} {V : Nat → Nat → Value} {z : Nat} {p : Nat} {l : Int32} {m : Int32} (h_p : ps_S S p)  : ow_Cf yX7_isInRange cX7_isInRange 3 (some .boolean) 0 [.ref p, .int l, .int m] (S, I, V, z) (some (.int (bi (Q_isInRange p l m I)))) (S, I, V, z) := by
  refine ow_Cf.of rfl (Nat.le_of_ble_eq_true rfl) (fun X K E F hk => ?_)
  have E : ow_E X RX7 cX7_isInRange 3 (ow_rm 0 0 0) := E
  refine or_lv [(0, .ref p), (1, .int l), (2, .int m)] rfl ?_
  dsimp only [Q_isInRange] at hk
  refine or_aload_n E rfl dX7_isInRange_0 ?_
  refine ot_getC E fl_7_12 dX7_isInRange_1 h_p.1 rfl ?_
  refine ot_getI E fl_7_184 dX7_isInRange_4 h_p.2.1.1 rfl ?_
  refine or_iload_n E rfl dX7_isInRange_7 ?_
  refine or_icmp_lt 26 E dX7_isInRange_8 rfl (fun q8 => ?_) (fun q8 => ?_)
  · replace hk := ite_p (P := fun r : Bool => K (some (.int (bi (r)))) (S, I, V, z)) q8 hk
    refine or_iconst (v := nI 0) E rfl dX7_isInRange_26 ?_
    exact or_zret E F dX7_isInRange_27 (Nat.le_refl _) (Nat.le_refl _) (bi_nar false) hk
  · replace hk := ite_n (P := fun r : Bool => K (some (.int (bi (r)))) (S, I, V, z)) q8 hk
    refine or_aload_n E rfl dX7_isInRange_11 ?_
    refine ot_getC E fl_7_12 dX7_isInRange_12 h_p.1 rfl ?_
    refine ot_getI E fl_7_184 dX7_isInRange_15 h_p.2.1.1 rfl ?_
    refine or_iload_n E rfl dX7_isInRange_18 ?_
    refine or_icmp_gt 26 E dX7_isInRange_19 rfl (fun q19 => ?_) (fun q19 => ?_)
    · replace hk := ite_p (P := fun r : Bool => K (some (.int (bi (r)))) (S, I, V, z)) q19 hk
      refine or_iconst (v := nI 0) E rfl dX7_isInRange_26 ?_
      exact or_zret E F dX7_isInRange_27 (Nat.le_refl _) (Nat.le_refl _) (bi_nar false) hk
    · replace hk := ite_n (P := fun r : Bool => K (some (.int (bi (r)))) (S, I, V, z)) q19 hk
      refine or_iconst (v := nI 1) E rfl dX7_isInRange_22 ?_
      refine or_goto 27 E dX7_isInRange_23 rfl ?_
      exact or_zret E F dX7_isInRange_27 (Nat.le_refl _) (Nat.le_refl _) (bi_nar true) hk
def Q_takeNumber (p : Nat) (l : Int32) (m : Int32) (I : ow_I) : Bool × ow_I :=
  if I (p + 1) 2 = nI 2 then if Q_isInRange p l m I then lt (ow_u I p 4 (I (p + 1) 5)) (fun (I1 : ow_I) => lt (U_advance (p + 1) I1) (fun (I2 : ow_I) => (true, I2))) else lt (Q_fail p (nI 2) I) (fun (r3 : Bool × ow_I) => (r3.1, r3.2)) else lt (Q_fail p (nI 1) I) (fun (r4 : Bool × ow_I) => (r4.1, r4.2))
set_option maxRecDepth 100000 in
set_option maxHeartbeats 400000 in
theorem cQ_takeNumber {S : Nat → Option ow_Sh} {I : ow_I} {V : Nat → Nat → Value} {z : Nat} {p : Nat} {l : Int32} {m : Int32} (h_p : ps_S S p) (hi : in_R (I (p + 1))) : ow_Cf yX7_takeNumber cX7_takeNumber 3 (some .boolean) 2 [.ref p, .int l, .int m] (S, I, V, z) (some (.int (bi ((Q_takeNumber p l m I).1)))) (S, (Q_takeNumber p l m I).2, V, z) := by
  refine ow_Cf.of rfl (Nat.le_of_ble_eq_true rfl) (fun X K E F hk => ?_)
  have E : ow_E X RX7 cX7_takeNumber 3 (ow_rm 2 0 0) := E
  refine or_lv [(0, .ref p), (1, .int l), (2, .int m)] rfl ?_
  dsimp only [Q_takeNumber] at hk
  refine or_aload_n E rfl dX7_takeNumber_0 ?_
  refine ot_getC E fl_7_12 dX7_takeNumber_1 h_p.1 rfl ?_
  refine ot_getI E fl_7_51 dX7_takeNumber_4 h_p.2.1.1 rfl ?_
  refine or_iconst (v := nI 2) E rfl dX7_takeNumber_7 ?_
  refine or_icmp_eq 17 E dX7_takeNumber_8 rfl (fun q8 => ?_) (fun q8 => ?_)
  · replace hk := ite_p (P := fun r : Bool × ow_I => K (some (.int (bi ((r).1)))) (S, (r).2, V, z)) q8 hk
    refine or_aload_n E rfl dX7_takeNumber_17 ?_
    refine or_iload_n E rfl dX7_takeNumber_18 ?_
    refine or_iload_n E rfl dX7_takeNumber_19 ?_
    refine or_cV2r (cQ_isInRange  h_p ) E lk_7_152 dX7_takeNumber_20 h_p.1 rfl rfl (by decide) (by decide) ⟨Nat.le_refl _, Nat.le_refl _⟩ (Nat.le_of_ble_eq_true rfl) ?_
    refine or_if_neZ 32 E dX7_takeNumber_23 rfl (fun q23 => ?_) (fun q23 => ?_)
    · replace hk := ite_p (P := fun r : Bool × ow_I => K (some (.int (bi ((r).1)))) (S, (r).2, V, z)) q23 hk
      refine or_aload_n E rfl dX7_takeNumber_32 ?_
      refine or_aload_n E rfl dX7_takeNumber_33 ?_
      refine ot_getC E fl_7_12 dX7_takeNumber_34 h_p.1 rfl ?_
      refine ot_getI E fl_7_184 dX7_takeNumber_37 h_p.2.1.1 rfl ?_
      refine ot_putI E fl_7_100 fw_7_4 dX7_takeNumber_40 h_p.1 rfl ?_
      obtain ⟨I1, hI1⟩ : ∃ y_ : ow_I, y_ = ow_u I p 4 (I (p + 1) 5) := ⟨_, rfl⟩
      replace hk := lt_k (P := fun r : Bool × ow_I => K (some (.int (bi ((r).1)))) (S, (r).2, V, z)) hI1 hk
      refine or_nmI hI1 ?_
      refine or_aload_n E rfl dX7_takeNumber_43 ?_
      refine ot_getC E fl_7_12 dX7_takeNumber_44 h_p.1 rfl ?_
      refine or_cV0v (cU_advance  h_p.2.1 (by subst hI1; (try simp (disch := omega) only [rr_u]); exact hi.1.1) (by subst hI1; (try simp (disch := omega) only [rr_u]); exact hi.1.2) (by subst hI1; (try simp (disch := omega) only [rr_u]); exact hi.2.2.1) (by subst hI1; (try simp (disch := omega) only [rr_u]); exact hi.2.2.2)) E lk_7_65 dX7_takeNumber_47 h_p.2.1.1 rfl rfl (by decide) (by decide) ⟨Nat.le_refl _, Nat.le_refl _⟩ (Nat.le_of_ble_eq_true rfl) ?_
      obtain ⟨I2, hI2⟩ : ∃ y_ : ow_I, y_ = U_advance (p + 1) I1 := ⟨_, rfl⟩
      replace hk := lt_k (P := fun r : Bool × ow_I => K (some (.int (bi ((r).1)))) (S, (r).2, V, z)) hI2 hk
      refine or_nmI hI2 ?_
      refine or_iconst (v := nI 1) E rfl dX7_takeNumber_50 ?_
      try dsimp only at hk
      exact or_zret E F dX7_takeNumber_51 (Nat.le_refl _) (Nat.le_refl _) (bi_nar true) hk
    · replace hk := ite_n (P := fun r : Bool × ow_I => K (some (.int (bi ((r).1)))) (S, (r).2, V, z)) (bz_neg q23) hk
      refine or_aload_n E rfl dX7_takeNumber_26 ?_
      refine or_iconst (v := nI 2) E rfl dX7_takeNumber_27 ?_
      refine or_cV1r (cQ_fail  h_p ) E lk_7_54 dX7_takeNumber_28 h_p.1 rfl rfl (by decide) (by decide) ⟨Nat.le_refl _, Nat.le_refl _⟩ (Nat.le_of_ble_eq_true rfl) ?_
      obtain ⟨r3, hr3⟩ : ∃ y_ : Bool × ow_I, y_ = Q_fail p (nI 2) I := ⟨_, rfl⟩
      replace hk := lt_k (P := fun r : Bool × ow_I => K (some (.int (bi ((r).1)))) (S, (r).2, V, z)) hr3 hk
      refine or_nmZ hr3 ?_
      try dsimp only at hk
      exact or_zret E F dX7_takeNumber_31 (Nat.le_refl _) (Nat.le_refl _) (bi_nar _) hk
  · replace hk := ite_n (P := fun r : Bool × ow_I => K (some (.int (bi ((r).1)))) (S, (r).2, V, z)) q8 hk
    refine or_aload_n E rfl dX7_takeNumber_11 ?_
    refine or_iconst (v := nI 1) E rfl dX7_takeNumber_12 ?_
    refine or_cV1r (cQ_fail  h_p ) E lk_7_54 dX7_takeNumber_13 h_p.1 rfl rfl (by decide) (by decide) ⟨Nat.le_refl _, Nat.le_refl _⟩ (Nat.le_of_ble_eq_true rfl) ?_
    obtain ⟨r4, hr4⟩ : ∃ y_ : Bool × ow_I, y_ = Q_fail p (nI 1) I := ⟨_, rfl⟩
    replace hk := lt_k (P := fun r : Bool × ow_I => K (some (.int (bi ((r).1)))) (S, (r).2, V, z)) hr4 hk
    refine or_nmZ hr4 ?_
    try dsimp only at hk
    exact or_zret E F dX7_takeNumber_16 (Nat.le_refl _) (Nat.le_refl _) (bi_nar _) hk
def Q_takeSemicolon (p : Nat) (I : ow_I) : Bool × ow_I :=
  if I (p + 1) 2 = nI 3 then lt (U_advance (p + 1) I) (fun (I1 : ow_I) => (true, I1)) else lt (Q_fail p (nI 1) I) (fun (r2 : Bool × ow_I) => (r2.1, r2.2))
set_option maxRecDepth 100000 in
set_option maxHeartbeats 400000 in
theorem cQ_takeSemicolon {S : Nat → Option ow_Sh} {I : ow_I} {V : Nat → Nat → Value} {z : Nat} {p : Nat} (h_p : ps_S S p) (hi : in_R (I (p + 1))) : ow_Cf yX7_takeSemicolon cX7_takeSemicolon 1 (some .boolean) 2 [.ref p] (S, I, V, z) (some (.int (bi ((Q_takeSemicolon p I).1)))) (S, (Q_takeSemicolon p I).2, V, z) := by
  refine ow_Cf.of rfl (Nat.le_of_ble_eq_true rfl) (fun X K E F hk => ?_)
  have E : ow_E X RX7 cX7_takeSemicolon 1 (ow_rm 2 0 0) := E
  refine or_lv [(0, .ref p)] rfl ?_
  dsimp only [Q_takeSemicolon] at hk
  refine or_aload_n E rfl dX7_takeSemicolon_0 ?_
  refine ot_getC E fl_7_12 dX7_takeSemicolon_1 h_p.1 rfl ?_
  refine ot_getI E fl_7_51 dX7_takeSemicolon_4 h_p.2.1.1 rfl ?_
  refine or_iconst (v := nI 3) E rfl dX7_takeSemicolon_7 ?_
  refine or_icmp_eq 17 E dX7_takeSemicolon_8 rfl (fun q8 => ?_) (fun q8 => ?_)
  · replace hk := ite_p (P := fun r : Bool × ow_I => K (some (.int (bi ((r).1)))) (S, (r).2, V, z)) q8 hk
    refine or_aload_n E rfl dX7_takeSemicolon_17 ?_
    refine ot_getC E fl_7_12 dX7_takeSemicolon_18 h_p.1 rfl ?_
    refine or_cV0v (cU_advance  h_p.2.1 (by (try simp (disch := omega) only [rr_u]); exact hi.1.1) (by (try simp (disch := omega) only [rr_u]); exact hi.1.2) (by (try simp (disch := omega) only [rr_u]); exact hi.2.2.1) (by (try simp (disch := omega) only [rr_u]); exact hi.2.2.2)) E lk_7_65 dX7_takeSemicolon_21 h_p.2.1.1 rfl rfl (by decide) (by decide) ⟨Nat.le_refl _, Nat.le_refl _⟩ (Nat.le_of_ble_eq_true rfl) ?_
    obtain ⟨I1, hI1⟩ : ∃ y_ : ow_I, y_ = U_advance (p + 1) I := ⟨_, rfl⟩
    replace hk := lt_k (P := fun r : Bool × ow_I => K (some (.int (bi ((r).1)))) (S, (r).2, V, z)) hI1 hk
    refine or_nmI hI1 ?_
    refine or_iconst (v := nI 1) E rfl dX7_takeSemicolon_24 ?_
    try dsimp only at hk
    exact or_zret E F dX7_takeSemicolon_25 (Nat.le_refl _) (Nat.le_refl _) (bi_nar true) hk
  · replace hk := ite_n (P := fun r : Bool × ow_I => K (some (.int (bi ((r).1)))) (S, (r).2, V, z)) q8 hk
    refine or_aload_n E rfl dX7_takeSemicolon_11 ?_
    refine or_iconst (v := nI 1) E rfl dX7_takeSemicolon_12 ?_
    refine or_cV1r (cQ_fail  h_p ) E lk_7_54 dX7_takeSemicolon_13 h_p.1 rfl rfl (by decide) (by decide) ⟨Nat.le_refl _, Nat.le_refl _⟩ (Nat.le_of_ble_eq_true rfl) ?_
    obtain ⟨r2, hr2⟩ : ∃ y_ : Bool × ow_I, y_ = Q_fail p (nI 1) I := ⟨_, rfl⟩
    replace hk := lt_k (P := fun r : Bool × ow_I => K (some (.int (bi ((r).1)))) (S, (r).2, V, z)) hr2 hk
    refine or_nmZ hr2 ?_
    try dsimp only at hk
    exact or_zret E F dX7_takeSemicolon_16 (Nat.le_refl _) (Nat.le_refl _) (bi_nar _) hk
