/-! THE REFERENCE: its cells; its methods, leaves first (laid by wip/whole/model1.py) -/
def md_k (m : Nat) : Nat → Option (Option Value) := fun k => match k with
  | 0 => some (some (.ref (m + 1)))
  | 3 => some (some (.ref (m + 2)))
  | 4 => some (some (.ref (m + 3)))
  | 12 => some (some (.ref (m + 4)))
  | 14 => some (some (.ref (m + 5)))
  | 16 => some (some (.ref (m + 6)))
  | 19 => some (some (.ref (m + 7)))
  | _ => none
def ow_n : Nat → Option (Option Value) := fun _ => none
def md_S (S : Nat → Option ow_Sh) (m : Nat) : Prop := S m = some (.inl (11, md_k m)) ∧ S (m + 1) = some (.inr (.int, 4810, ow_n)) ∧ S (m + 2) = some (.inr (.boolean, 2, ow_n)) ∧ S (m + 3) = some (.inr (.byte, 500, ow_n)) ∧ S (m + 4) = some (.inr (.int, 11, ow_n)) ∧ S (m + 5) = some (.inr (.int, 260, ow_n)) ∧ S (m + 6) = some (.inr (.byte, 200, ow_n)) ∧ S (m + 7) = some (.inr (.char, 64, ow_n))
theorem bz_neg {b : Bool} (h : b = false) : ¬ b = true := by rw [h]; decide
theorem fl_11_7 : ow_fl RX11 7 11 0 := ⟨_, rfl, by decide, ow_T_in 1635 (by decide +kernel) (by decide +kernel), ow_ok11⟩
theorem fl_11_54 : ow_fl RX11 54 11 18 := ⟨_, rfl, by decide, ow_T_in 1653 (by decide +kernel) (by decide +kernel), ow_ok11⟩
theorem fw_11_18 : ∃ r : vw_C, ow_cl[11]? = some r ∧ (r.2.1 18).2.2.2 = false ∧ parseFieldDescriptor (r.2.1 18).2.2.1 = some .int := ⟨_, rfl, rfl, by decide +kernel⟩
theorem lk_11_66 : ow_lv RX11 66 yX11_ofBarrel cX11_ofBarrel 3 (some .int) 2 := ⟨ow_T_in 1631 (by decide +kernel) (by decide +kernel), ow_T_in 1633 (by decide +kernel) (by decide +kernel), ow_T_sel 42 (by decide +kernel) (by decide +kernel), ow_T_in 19 (by decide +kernel) (by decide +kernel), ow_T_in 1634 (by decide +kernel) (by decide +kernel), ⟨by decide +kernel, by decide +kernel, by decide +kernel⟩⟩
def M_throwsIf (m : Nat) (b : Bool) (w : Int32) (I : ow_I) : Bool × ow_I :=
  if b then lt (ow_u I m 18 w) (fun (I1 : ow_I) => (b, I1)) else (b, I)
set_option maxRecDepth 100000 in
set_option maxHeartbeats 400000 in
theorem cM_throwsIf {S : Nat → Option ow_Sh} {I : ow_I} {V : Nat → Nat → Value} {z : Nat} {m : Nat} {b : Bool} {w : Int32} (h_m : md_S S m)  : ow_Cf yX11_throwsIf cX11_throwsIf 3 (some .boolean) 0 [.ref m, .int (bi b), .int w] (S, I, V, z) (some (.int (bi ((M_throwsIf m b w I).1)))) (S, (M_throwsIf m b w I).2, V, z) := by
  refine ow_Cf.of rfl (Nat.le_of_ble_eq_true rfl) (fun X K E F hk => ?_)
  have E : ow_E X RX11 cX11_throwsIf 3 (ow_rm 0 0 0) := E
  refine or_lv [(0, .ref m), (1, .int (bi b)), (2, .int w)] rfl ?_
  dsimp only [M_throwsIf] at hk
  refine or_iload_n E rfl dX11_throwsIf_0 ?_
  refine or_if_eqZ 9 E dX11_throwsIf_1 rfl (fun q1 => ?_) (fun q1 => ?_)
  · replace hk := ite_n (P := fun r : Bool × ow_I => K (some (.int (bi ((r).1)))) (S, (r).2, V, z)) (bz_neg q1) hk
    refine or_iload_n E rfl dX11_throwsIf_9 ?_
    try dsimp only at hk
    exact or_zret E F dX11_throwsIf_10 (Nat.le_refl _) (Nat.le_refl _) (bi_nar _) hk
  · replace hk := ite_p (P := fun r : Bool × ow_I => K (some (.int (bi ((r).1)))) (S, (r).2, V, z)) q1 hk
    refine or_aload_n E rfl dX11_throwsIf_4 ?_
    refine or_iload_n E rfl dX11_throwsIf_5 ?_
    refine ot_putI E fl_11_54 fw_11_18 dX11_throwsIf_6 h_m.1 rfl ?_
    obtain ⟨I1, hI1⟩ : ∃ y_ : ow_I, y_ = ow_u I m 18 w := ⟨_, rfl⟩
    replace hk := lt_k (P := fun r : Bool × ow_I => K (some (.int (bi ((r).1)))) (S, (r).2, V, z)) hI1 hk
    refine or_nmI hI1 ?_
    refine or_iload_n E rfl dX11_throwsIf_9 ?_
    try dsimp only at hk
    exact or_zret E F dX11_throwsIf_10 (Nat.le_refl _) (Nat.le_refl _) (bi_nar _) hk
def M_in (v : Int32) (lo : Int32) (hi : Int32) (I : ow_I) : Bool :=
  if v < lo then false else if hi < v then false else true
set_option maxRecDepth 100000 in
set_option maxHeartbeats 400000 in
theorem cM_in {S : Nat → Option ow_Sh} {I : ow_I} {V : Nat → Nat → Value} {z : Nat} {v : Int32} {lo : Int32} {hi : Int32}   : ow_Cf yX11_in cX11_in 3 (some .boolean) 0 [.int v, .int lo, .int hi] (S, I, V, z) (some (.int (bi (M_in v lo hi I)))) (S, I, V, z) := by
  refine ow_Cf.of rfl (Nat.le_of_ble_eq_true rfl) (fun X K E F hk => ?_)
  have E : ow_E X RX11 cX11_in 3 (ow_rm 0 0 0) := E
  refine or_lv [(0, .int v), (1, .int lo), (2, .int hi)] rfl ?_
  dsimp only [M_in] at hk
  refine or_iload_n E rfl dX11_in_0 ?_
  refine or_iload_n E rfl dX11_in_1 ?_
  refine or_icmp_lt 14 E dX11_in_2 rfl (fun q2 => ?_) (fun q2 => ?_)
  · replace hk := ite_p (P := fun r : Bool => K (some (.int (bi (r)))) (S, I, V, z)) q2 hk
    refine or_iconst (v := nI 0) E rfl dX11_in_14 ?_
    exact or_zret E F dX11_in_15 (Nat.le_refl _) (Nat.le_refl _) (bi_nar false) hk
  · replace hk := ite_n (P := fun r : Bool => K (some (.int (bi (r)))) (S, I, V, z)) q2 hk
    refine or_iload_n E rfl dX11_in_5 ?_
    refine or_iload_n E rfl dX11_in_6 ?_
    refine or_icmp_gt 14 E dX11_in_7 rfl (fun q7 => ?_) (fun q7 => ?_)
    · replace hk := ite_p (P := fun r : Bool => K (some (.int (bi (r)))) (S, I, V, z)) q7 hk
      refine or_iconst (v := nI 0) E rfl dX11_in_14 ?_
      exact or_zret E F dX11_in_15 (Nat.le_refl _) (Nat.le_refl _) (bi_nar false) hk
    · replace hk := ite_n (P := fun r : Bool => K (some (.int (bi (r)))) (S, I, V, z)) q7 hk
      refine or_iconst (v := nI 1) E rfl dX11_in_10 ?_
      refine or_goto 15 E dX11_in_11 rfl ?_
      exact or_zret E F dX11_in_15 (Nat.le_refl _) (Nat.le_refl _) (bi_nar true) hk
def M_of (m : Nat) (b : Nat) (w : Nat) (I : ow_I) : Int32 :=
  I (m + 1) (36 + (5 * b) + w)
set_option maxRecDepth 100000 in
set_option maxHeartbeats 400000 in
theorem cM_of {S : Nat → Option ow_Sh} {I : ow_I} {V : Nat → Nat → Value} {z : Nat} {m : Nat} {b : Nat} {w : Nat} (h_m : md_S S m) (hi : 36 + 5 * b + w < 4810) : ow_Cf yX11_of cX11_of 3 (some .int) 0 [.ref m, .int (nI b), .int (nI w)] (S, I, V, z) (some (.int (M_of m b w I))) (S, I, V, z) := by
  refine ow_Cf.of rfl (Nat.le_of_ble_eq_true rfl) (fun X K E F hk => ?_)
  have E : ow_E X RX11 cX11_of 3 (ow_rm 0 0 0) := E
  refine or_lv [(0, .ref m), (1, .int (nI b)), (2, .int (nI w))] rfl ?_
  dsimp only [M_of] at hk
  refine or_aload_n E rfl dX11_of_0 ?_
  refine ot_getC E fl_11_7 dX11_of_1 h_m.1 rfl ?_
  refine or_bipush (v := nI 36) E rfl dX11_of_4 ?_
  refine or_iconst (v := nI 5) E rfl dX11_of_6 ?_
  refine or_iload_n E rfl dX11_of_7 ?_
  refine or_imulN E dX11_of_8 ?_
  refine or_iaddN E dX11_of_9 ?_
  refine or_iload_n E rfl dX11_of_10 ?_
  refine or_iaddN E dX11_of_11 ?_
  refine ot_iald (j := 36 + (5 * b) + w) E dX11_of_12 h_m.2.1 rfl rfl (by omega) (Nat.le_of_ble_eq_true rfl) ?_
  exact or_iret E F dX11_of_13 (Nat.le_refl _) (Nat.le_refl _) hk
def M_put (m : Nat) (b : Nat) (w : Nat) (x : Int32) (I : ow_I) : ow_I :=
  lt (ow_u I (m + 1) (36 + (5 * b) + w) x) (fun (I1 : ow_I) => I1)
set_option maxRecDepth 100000 in
set_option maxHeartbeats 400000 in
theorem cM_put {S : Nat → Option ow_Sh} {I : ow_I} {V : Nat → Nat → Value} {z : Nat} {m : Nat} {b : Nat} {w : Nat} {x : Int32} (h_m : md_S S m) (hi : 36 + 5 * b + w < 4810) : ow_Cf yX11_put cX11_put 4 none 0 [.ref m, .int (nI b), .int (nI w), .int x] (S, I, V, z) none (S, M_put m b w x I, V, z) := by
  refine ow_Cf.of rfl (Nat.le_of_ble_eq_true rfl) (fun X K E F hk => ?_)
  have E : ow_E X RX11 cX11_put 4 (ow_rm 0 0 0) := E
  refine or_lv [(0, .ref m), (1, .int (nI b)), (2, .int (nI w)), (3, .int x)] rfl ?_
  dsimp only [M_put] at hk
  refine or_aload_n E rfl dX11_put_0 ?_
  refine ot_getC E fl_11_7 dX11_put_1 h_m.1 rfl ?_
  refine or_bipush (v := nI 36) E rfl dX11_put_4 ?_
  refine or_iconst (v := nI 5) E rfl dX11_put_6 ?_
  refine or_iload_n E rfl dX11_put_7 ?_
  refine or_imulN E dX11_put_8 ?_
  refine or_iaddN E dX11_put_9 ?_
  refine or_iload_n E rfl dX11_put_10 ?_
  refine or_iaddN E dX11_put_11 ?_
  refine or_iload_n E rfl dX11_put_12 ?_
  refine ot_iast (j := 36 + (5 * b) + w) E dX11_put_13 h_m.2.1 rfl rfl (by omega) (Nat.le_of_ble_eq_true rfl) ?_
  obtain ⟨I1, hI1⟩ : ∃ y_ : ow_I, y_ = ow_u I (m + 1) (36 + (5 * b) + w) x := ⟨_, rfl⟩
  replace hk := lt_k (P := fun r : ow_I => K none (S, r, V, z)) hI1 hk
  refine or_nmI hI1 ?_
  exact or_vret E F dX11_put_14 (Nat.le_refl _) (Nat.le_refl _) hk
def M_ofBarrel (m : Nat) (b : Nat) (w : Nat) (I : ow_I) : Int32 :=
  I (m + 1) (66 + (15 * b) + w)
set_option maxRecDepth 100000 in
set_option maxHeartbeats 400000 in
theorem cM_ofBarrel {S : Nat → Option ow_Sh} {I : ow_I} {V : Nat → Nat → Value} {z : Nat} {m : Nat} {b : Nat} {w : Nat} (h_m : md_S S m) (hi : 66 + 15 * b + w < 4810) : ow_Cf yX11_ofBarrel cX11_ofBarrel 3 (some .int) 0 [.ref m, .int (nI b), .int (nI w)] (S, I, V, z) (some (.int (M_ofBarrel m b w I))) (S, I, V, z) := by
  refine ow_Cf.of rfl (Nat.le_of_ble_eq_true rfl) (fun X K E F hk => ?_)
  have E : ow_E X RX11 cX11_ofBarrel 3 (ow_rm 0 0 0) := E
  refine or_lv [(0, .ref m), (1, .int (nI b)), (2, .int (nI w))] rfl ?_
  dsimp only [M_ofBarrel] at hk
  refine or_aload_n E rfl dX11_ofBarrel_0 ?_
  refine ot_getC E fl_11_7 dX11_ofBarrel_1 h_m.1 rfl ?_
  refine or_bipush (v := nI 66) E rfl dX11_ofBarrel_4 ?_
  refine or_bipush (v := nI 15) E rfl dX11_ofBarrel_6 ?_
  refine or_iload_n E rfl dX11_ofBarrel_8 ?_
  refine or_imulN E dX11_ofBarrel_9 ?_
  refine or_iaddN E dX11_ofBarrel_10 ?_
  refine or_iload_n E rfl dX11_ofBarrel_11 ?_
  refine or_iaddN E dX11_ofBarrel_12 ?_
  refine ot_iald (j := 66 + (15 * b) + w) E dX11_ofBarrel_13 h_m.2.1 rfl rfl (by omega) (Nat.le_of_ble_eq_true rfl) ?_
  exact or_iret E F dX11_ofBarrel_14 (Nat.le_refl _) (Nat.le_refl _) hk
def M_putBarrel (m : Nat) (b : Nat) (w : Nat) (x : Int32) (I : ow_I) : ow_I :=
  lt (ow_u I (m + 1) (66 + (15 * b) + w) x) (fun (I1 : ow_I) => I1)
set_option maxRecDepth 100000 in
set_option maxHeartbeats 400000 in
theorem cM_putBarrel {S : Nat → Option ow_Sh} {I : ow_I} {V : Nat → Nat → Value} {z : Nat} {m : Nat} {b : Nat} {w : Nat} {x : Int32} (h_m : md_S S m) (hi : 66 + 15 * b + w < 4810) : ow_Cf yX11_putBarrel cX11_putBarrel 4 none 0 [.ref m, .int (nI b), .int (nI w), .int x] (S, I, V, z) none (S, M_putBarrel m b w x I, V, z) := by
  refine ow_Cf.of rfl (Nat.le_of_ble_eq_true rfl) (fun X K E F hk => ?_)
  have E : ow_E X RX11 cX11_putBarrel 4 (ow_rm 0 0 0) := E
  refine or_lv [(0, .ref m), (1, .int (nI b)), (2, .int (nI w)), (3, .int x)] rfl ?_
  dsimp only [M_putBarrel] at hk
  refine or_aload_n E rfl dX11_putBarrel_0 ?_
  refine ot_getC E fl_11_7 dX11_putBarrel_1 h_m.1 rfl ?_
  refine or_bipush (v := nI 66) E rfl dX11_putBarrel_4 ?_
  refine or_bipush (v := nI 15) E rfl dX11_putBarrel_6 ?_
  refine or_iload_n E rfl dX11_putBarrel_8 ?_
  refine or_imulN E dX11_putBarrel_9 ?_
  refine or_iaddN E dX11_putBarrel_10 ?_
  refine or_iload_n E rfl dX11_putBarrel_11 ?_
  refine or_iaddN E dX11_putBarrel_12 ?_
  refine or_iload_n E rfl dX11_putBarrel_13 ?_
  refine ot_iast (j := 66 + (15 * b) + w) E dX11_putBarrel_14 h_m.2.1 rfl rfl (by omega) (Nat.le_of_ble_eq_true rfl) ?_
  obtain ⟨I1, hI1⟩ : ∃ y_ : ow_I, y_ = ow_u I (m + 1) (66 + (15 * b) + w) x := ⟨_, rfl⟩
  replace hk := lt_k (P := fun r : ow_I => K none (S, r, V, z)) hI1 hk
  refine or_nmI hI1 ?_
  exact or_vret E F dX11_putBarrel_15 (Nat.le_refl _) (Nat.le_refl _) hk
def M_lengthOf (m : Nat) (b : Nat) (e : Nat) (I : ow_I) : Int32 :=
  M_ofBarrel m b (1 + e) I
set_option maxRecDepth 100000 in
set_option maxHeartbeats 400000 in
theorem cM_lengthOf {S : Nat → Option ow_Sh} {I : ow_I} {V : Nat → Nat → Value} {z : Nat} {m : Nat} {b : Nat} {e : Nat} (h_m : md_S S m) (hi : 67 + 15 * b + e < 4810) : ow_Cf yX11_lengthOf cX11_lengthOf 3 (some .int) 1 [.ref m, .int (nI b), .int (nI e)] (S, I, V, z) (some (.int (M_lengthOf m b e I))) (S, I, V, z) := by
  refine ow_Cf.of rfl (Nat.le_of_ble_eq_true rfl) (fun X K E F hk => ?_)
  have E : ow_E X RX11 cX11_lengthOf 3 (ow_rm 1 0 0) := E
  refine or_lv [(0, .ref m), (1, .int (nI b)), (2, .int (nI e))] rfl ?_
  dsimp only [M_lengthOf] at hk
  refine or_aload_n E rfl dX11_lengthOf_0 ?_
  refine or_iload_n E rfl dX11_lengthOf_1 ?_
  refine or_iconst (v := nI 1) E rfl dX11_lengthOf_2 ?_
  refine or_iload_n E rfl dX11_lengthOf_3 ?_
  refine or_iaddN E dX11_lengthOf_4 ?_
  refine or_cV2r (cM_ofBarrel  h_m (by omega)) E lk_11_66 dX11_lengthOf_5 h_m.1 rfl rfl (by decide) (by decide) ⟨Nat.le_refl _, Nat.le_refl _⟩ (Nat.le_of_ble_eq_true rfl) ?_
  exact or_iret E F dX11_lengthOf_8 (Nat.le_refl _) (Nat.le_refl _) hk
def M_copyBlock_L2 (m : Nat) (f : Nat) (t : Nat) : Nat → ow_I → Nat → ow_I
  | 0, I, _ => I
  | n + 1, I, i => if 370 ≤ i then I else lt (ow_u I (m + 1) (370 * t + i) (I (m + 1) (370 * f + i))) (fun (I1 : ow_I) => M_copyBlock_L2 m f t n I1 (i + 1))
def M_copyBlock (m : Nat) (f : Nat) (t : Nat) (I : ow_I) : ow_I :=
  M_copyBlock_L2 m f t 371 I 0
set_option maxRecDepth 100000 in
set_option maxHeartbeats 400000 in
theorem cM_copyBlock {S : Nat → Option ow_Sh} {I : ow_I} {V : Nat → Nat → Value} {z : Nat} {m : Nat} {f : Nat} {t : Nat} (h_m : md_S S m) (hf : f < 13) (ht : t < 13) : ow_Cf yX11_copyBlock cX11_copyBlock 4 none 0 [.ref m, .int (nI f), .int (nI t)] (S, I, V, z) none (S, M_copyBlock m f t I, V, z) := by
  refine ow_Cf.of rfl (Nat.le_of_ble_eq_true rfl) (fun X K E F hk => ?_)
  have E : ow_E X RX11 cX11_copyBlock 4 (ow_rm 0 0 0) := E
  refine or_lv [(0, .ref m), (1, .int (nI f)), (2, .int (nI t))] rfl ?_
  have L2 : ∀ (n : Nat) (I : ow_I) (i : Nat) (hi : i ≤ 370) (hm : 370 - i < n) (hk : K none (S, M_copyBlock_L2 m f t n I i, V, z)), ow_W X 0 0 (S, I, V, z) 2 [(0, .ref m), (1, .int (nI f)), (2, .int (nI t)), (3, .int (nI i))] [] := by
    intro n
    induction n with
    | zero => intro I i hi hm; omega
    | succ n ih =>
      intro I i hi hm hk
      dsimp only [M_copyBlock_L2] at hk
      refine or_iload_n E rfl dX11_copyBlock_2 ?_
      refine or_sipush (v := nI 370) E rfl dX11_copyBlock_3 ?_
      refine or_icmp_geN 39 E dX11_copyBlock_6 rfl (by omega) (by omega) (fun q6 => ?_) (fun q6 => ?_)
      · replace hk := ite_p (P := fun r : ow_I => K none (S, r, V, z)) q6 hk
        exact or_vret E F dX11_copyBlock_39 (Nat.le_refl _) (Nat.le_refl _) hk
      · replace hk := ite_n (P := fun r : ow_I => K none (S, r, V, z)) q6 hk
        refine or_aload_n E rfl dX11_copyBlock_9 ?_
        refine ot_getC E fl_11_7 dX11_copyBlock_10 h_m.1 rfl ?_
        refine or_sipush (v := nI 370) E rfl dX11_copyBlock_13 ?_
        refine or_iload_n E rfl dX11_copyBlock_16 ?_
        refine or_imulN E dX11_copyBlock_17 ?_
        refine or_iload_n E rfl dX11_copyBlock_18 ?_
        refine or_iaddN E dX11_copyBlock_19 ?_
        refine or_aload_n E rfl dX11_copyBlock_20 ?_
        refine ot_getC E fl_11_7 dX11_copyBlock_21 h_m.1 rfl ?_
        refine or_sipush (v := nI 370) E rfl dX11_copyBlock_24 ?_
        refine or_iload_n E rfl dX11_copyBlock_27 ?_
        refine or_imulN E dX11_copyBlock_28 ?_
        refine or_iload_n E rfl dX11_copyBlock_29 ?_
        refine or_iaddN E dX11_copyBlock_30 ?_
        refine ot_iald (j := 370 * f + i) E dX11_copyBlock_31 h_m.2.1 rfl rfl (by omega) (Nat.le_of_ble_eq_true rfl) ?_
        refine ot_iast (j := 370 * t + i) E dX11_copyBlock_32 h_m.2.1 rfl rfl (by omega) (Nat.le_of_ble_eq_true rfl) ?_
        obtain ⟨I1, hI1⟩ : ∃ y_ : ow_I, y_ = ow_u I (m + 1) (370 * t + i) (I (m + 1) (370 * f + i)) := ⟨_, rfl⟩
        replace hk := lt_k (P := fun r : ow_I => K none (S, r, V, z)) hI1 hk
        refine or_nmI hI1 ?_
        refine or_iincN (c := 1) E dX11_copyBlock_33 rfl rfl (by decide) ?_
        refine or_goto 2 E dX11_copyBlock_36 rfl ?_
        refine or_lv _ ?_ (ih _ _ (by omega) (by omega) hk)
        rfl
  dsimp only [M_copyBlock] at hk
  refine or_iconst (v := nI 0) E rfl dX11_copyBlock_0 ?_
  refine or_istore_n E dX11_copyBlock_1 (by decide) ?_
  refine or_lv _ ?_ (L2 371 _ _ (by omega) (by omega) hk)
  rfl
def M_isOpenIn (m : Nat) (n : Int32) (I : ow_I) : Bool :=
  if I (m + 1) 1 ≤ n - n / (I (m + 1) 0) * (I (m + 1) 0) then false else true
set_option maxRecDepth 100000 in
set_option maxHeartbeats 400000 in
theorem cM_isOpenIn {S : Nat → Option ow_Sh} {I : ow_I} {V : Nat → Nat → Value} {z : Nat} {m : Nat} {n : Int32} (h_m : md_S S m) (hp : ¬ I (m + 1) 0 = 0) : ow_Cf yX11_isOpenIn cX11_isOpenIn 2 (some .boolean) 0 [.ref m, .int n] (S, I, V, z) (some (.int (bi (M_isOpenIn m n I)))) (S, I, V, z) := by
  refine ow_Cf.of rfl (Nat.le_of_ble_eq_true rfl) (fun X K E F hk => ?_)
  have E : ow_E X RX11 cX11_isOpenIn 2 (ow_rm 0 0 0) := E
  refine or_lv [(0, .ref m), (1, .int n)] rfl ?_
  dsimp only [M_isOpenIn] at hk
  refine or_iload_n E rfl dX11_isOpenIn_0 ?_
  refine or_aload_n E rfl dX11_isOpenIn_1 ?_
  refine ot_getC E fl_11_7 dX11_isOpenIn_2 h_m.1 rfl ?_
  refine or_iconst (v := nI 0) E rfl dX11_isOpenIn_5 ?_
  refine ot_iald (j := 0) E dX11_isOpenIn_6 h_m.2.1 rfl rfl (by omega) (Nat.le_of_ble_eq_true rfl) ?_
  refine or_irem E hp dX11_isOpenIn_7 ?_
  refine or_aload_n E rfl dX11_isOpenIn_8 ?_
  refine ot_getC E fl_11_7 dX11_isOpenIn_9 h_m.1 rfl ?_
  refine or_iconst (v := nI 1) E rfl dX11_isOpenIn_12 ?_
  refine ot_iald (j := 1) E dX11_isOpenIn_13 h_m.2.1 rfl rfl (by omega) (Nat.le_of_ble_eq_true rfl) ?_
  refine or_icmp_ge 21 E dX11_isOpenIn_14 rfl (fun q14 => ?_) (fun q14 => ?_)
  · replace hk := ite_p (P := fun r : Bool => K (some (.int (bi (r)))) (S, I, V, z)) q14 hk
    refine or_iconst (v := nI 0) E rfl dX11_isOpenIn_21 ?_
    exact or_zret E F dX11_isOpenIn_22 (Nat.le_refl _) (Nat.le_refl _) (bi_nar false) hk
  · replace hk := ite_n (P := fun r : Bool => K (some (.int (bi (r)))) (S, I, V, z)) q14 hk
    refine or_iconst (v := nI 1) E rfl dX11_isOpenIn_17 ?_
    refine or_goto 22 E dX11_isOpenIn_18 rfl ?_
    exact or_zret E F dX11_isOpenIn_22 (Nat.le_refl _) (Nat.le_refl _) (bi_nar true) hk
