def in_k (u : Nat) : Nat → Option (Option Value) := fun k => match k with
  | 0 => some (some (.ref (u + 1)))
  | _ => none
def in_S (S : Nat → Option ow_Sh) (u : Nat) : Prop := S u = some (.inl (5, in_k u)) ∧ S (u + 1) = some (.inr (.int, 500, ow_n))
def hs_k (h : Nat) : Nat → Option (Option Value) := fun k => match k with
  | 0 => some (some (.ref (h + 1)))
  | _ => none
def hs_m (h : Nat) : Nat → Option (Option Value) := fun j => some (some (.ref (h + 2 + 51 * j)))
def hs_S (S : Nat → Option ow_Sh) (h : Nat) : Prop := S h = some (.inl (4, hs_k h)) ∧ S (h + 1) = some (.inr (.object "LowWaterAuction$Market", 8, hs_m h)) ∧ ∀ i, i < 8 → mk_S S (h + 2 + 51 * i)
def k_it (a : Nat) : Nat → ow_I → ow_I
  | 0, I => I
  | n + 1, I => k_it a n (K_passOneMinute a I).2
theorem rr_kcL1 {a o b : Nat} (h : b < a ∨ a + 51 ≤ b) (hd : o + 51 ≤ a ∨ a + 51 ≤ o) : ∀ (n : Nat) (I : ow_I) (i : Nat), tn (I a 8) ≤ 6 → tn (I o 10) ≤ 20 → K_copyFrom_L69 a o n I i b = I b := by
  have key : ∀ (n : Nat) (I : ow_I) (i : Nat), tn (I a 10) ≤ 20 → K_copyFrom_L108 a o n I i b = I b := by
    intro n
    induction n with
    | zero => intro I i _; rfl
    | succ n ih =>
      intro I i h10
      simp only [K_copyFrom_L108, lt_eq]
      split
      · simp (disch := omega) only [rr_u, ow_cp_a]
      · rw [ih _ _ (by rw [rr_bcp (by omega) (by omega)]; exact h10), rr_bcp (by omega) (by omega)]
  intro n
  induction n with
  | zero => intro I i _ _; rfl
  | succ n ih =>
    intro I i h8 h10
    simp only [K_copyFrom_L69, lt_eq]
    split
    · rw [key _ _ _ (by rw [ow_u_s]; exact h10), rr_u (by omega)]
    · rw [ih _ _ (by rw [rr_ycp (by omega)]; exact h8) (by rw [rr_ycp (by omega)]; exact h10), rr_ycp (by omega)]
theorem rr_kcp {a o b : Nat} {I : ow_I} (h : b < a ∨ a + 51 ≤ b) (hd : o + 51 ≤ a ∨ a + 51 ≤ o) (h8 : tn (I o 8) ≤ 6) (h10 : tn (I o 10) ≤ 20) : K_copyFrom a o I b = I b := by
  simp only [K_copyFrom, lt_eq]
  rw [rr_kcL1 h hd _ _ _ (by simp (disch := omega) only [ow_u_s, rr_u, rr_tcp]; exact h8) (by simp (disch := omega) only [ow_u_s, rr_u, rr_tcp]; exact h10)]
  simp (disch := omega) only [rr_u, rr_tcp]
theorem lm_4_29 : ow_lm RX4 29 Lib.Math.min.name Lib.Math.min.code := ⟨ow_T_in 893 (by decide +kernel) (by decide +kernel), ow_T_in 437 (by decide +kernel) (by decide +kernel), ow_T_in 18 (by decide +kernel) (by decide +kernel), ow_T_in 438 (by decide +kernel) (by decide +kernel)⟩
theorem fl_4_11 : ow_fl RX4 11 4 0 := ⟨_, rfl, by decide, ow_T_in 234 (by decide +kernel) (by decide +kernel), ow_ok4⟩
theorem fl_4_18 : ow_fl RX4 18 4 1 := ⟨_, rfl, by decide, ow_T_in 235 (by decide +kernel) (by decide +kernel), ow_ok4⟩
theorem fl_4_26 : ow_fl RX4 26 4 2 := ⟨_, rfl, by decide, ow_T_in 236 (by decide +kernel) (by decide +kernel), ow_ok4⟩
theorem fl_5_9 : ow_fl RX5 9 5 0 := ⟨_, rfl, by decide, ow_T_in 256 (by decide +kernel) (by decide +kernel), ow_ok5⟩
theorem fl_5_39 : ow_fl RX5 39 5 1 := ⟨_, rfl, by decide, ow_T_in 258 (by decide +kernel) (by decide +kernel), ow_ok5⟩
theorem fw_4_1 : ∃ r : vw_C, ow_cl[4]? = some r ∧ (r.2.1 1).2.2.2 = false ∧ parseFieldDescriptor (r.2.1 1).2.2.1 = some .int := ⟨_, rfl, rfl, by decide +kernel⟩
theorem fw_4_2 : ∃ r : vw_C, ow_cl[4]? = some r ∧ (r.2.1 2).2.2.2 = false ∧ parseFieldDescriptor (r.2.1 2).2.2.1 = some .int := ⟨_, rfl, rfl, by decide +kernel⟩
theorem fw_5_1 : ∃ r : vw_C, ow_cl[5]? = some r ∧ (r.2.1 1).2.2.2 = false ∧ parseFieldDescriptor (r.2.1 1).2.2.1 = some .int := ⟨_, rfl, rfl, by decide +kernel⟩
theorem lk_4_22 : ow_lv RX4 22 yX6_copyFrom cX6_copyFrom 3 none 1 := ⟨ow_T_in 875 (by decide +kernel) (by decide +kernel), ow_T_in 876 (by decide +kernel) (by decide +kernel), ow_T_in 877 (by decide +kernel) (by decide +kernel), ow_T_in 2 (by decide +kernel) (by decide +kernel), ow_T_in 878 (by decide +kernel) (by decide +kernel), ⟨by decide +kernel, by decide +kernel, by decide +kernel⟩⟩
theorem lk_6_187 : ow_lv RX6 187 yX6_isIdle cX6_isIdle 1 (some .boolean) 0 := ⟨ow_T_in 1188 (by decide +kernel) (by decide +kernel), ow_T_in 1190 (by decide +kernel) (by decide +kernel), ow_T_sel 23 (by decide +kernel) (by decide +kernel), ow_T_in 2 (by decide +kernel) (by decide +kernel), ow_T_in 1191 (by decide +kernel) (by decide +kernel), ⟨by decide +kernel, by decide +kernel, by decide +kernel⟩⟩
theorem lk_6_190 : ow_lv RX6 190 yX6_passOneMinute cX6_passOneMinute 2 (some .boolean) 0 := ⟨ow_T_in 1192 (by decide +kernel) (by decide +kernel), ow_T_in 1194 (by decide +kernel) (by decide +kernel), ow_T_sel 24 (by decide +kernel) (by decide +kernel), ow_T_in 2 (by decide +kernel) (by decide +kernel), ow_T_in 1195 (by decide +kernel) (by decide +kernel), ⟨by decide +kernel, by decide +kernel, by decide +kernel⟩⟩
def K_letPass_L4 (a : Nat) (n2 : Nat) : Nat → ow_I → Nat → Nat → Int32 × ow_I
  | 0, I, _, _ => (default, I)
  | n + 1, I, c, i => if n2 ≤ i then (nI c, I) else if K_isIdle a I then lt (ow_u I (a + 1) 2 (I (a + 1) 2 + (nI (n2 - i)))) (fun (I2 : ow_I) => (nI c, I2)) else lt (K_passOneMinute a I) (fun (r1 : Bool × ow_I) => if r1.1 then K_letPass_L4 a n2 n r1.2 (c + 1) (i + 1) else K_letPass_L4 a n2 n r1.2 c (i + 1))
def K_letPass (a : Nat) (n2 : Nat) (I : ow_I) : Int32 × ow_I :=
  K_letPass_L4 a n2 (n2 + 1) I 0 0
set_option maxRecDepth 100000 in
set_option maxHeartbeats 400000 in
theorem cK_letPass {S : Nat → Option ow_Sh} {I : ow_I} {V : Nat → Nat → Value} {z : Nat} {a : Nat} {n2 : Nat} (h_a : mk_S S a) (hn : n2 < 2 ^ 31) (hL : ∀ n, k_V a (k_it a n I)) : ow_Cf yX6_letPass cX6_letPass 4 (some .int) 4 [.ref a, .int (nI n2)] (S, I, V, z) (some (.int ((K_letPass a n2 I).1))) (S, (K_letPass a n2 I).2, V, z) := by
  refine ow_Cf.of rfl (Nat.le_of_ble_eq_true rfl) (fun X K E F hk => ?_)
  have E : ow_E X RX6 cX6_letPass 4 (ow_rm 4 0 0) := E
  refine or_lv [(0, .ref a), (1, .int (nI n2))] rfl ?_
  have L4 : ∀ (n : Nat) (I : ow_I) (c : Nat) (i : Nat) (hL : ∀ n, k_V a (k_it a n I)) (hi : i ≤ n2) (hm : n2 - i < n) (hk : K (some (.int ((K_letPass_L4 a n2 n I c i).1))) (S, (K_letPass_L4 a n2 n I c i).2, V, z)), ow_W X 0 0 (S, I, V, z) 4 [(0, .ref a), (1, .int (nI n2)), (2, .int (nI c)), (3, .int (nI i))] [] := by
    intro n
    induction n with
    | zero => intro I c i hL hi hm; omega
    | succ n ih =>
      intro I c i hL hi hm hk
      dsimp only [K_letPass_L4] at hk
      refine or_iload_n E rfl dX6_letPass_4 ?_
      refine or_iload_n E rfl dX6_letPass_5 ?_
      refine or_icmp_geN 49 E dX6_letPass_6 rfl (by omega) (by omega) (fun q6 => ?_) (fun q6 => ?_)
      · replace hk := ite_p (P := fun r : Int32 × ow_I => K (some (.int ((r).1))) (S, (r).2, V, z)) q6 hk
        refine or_iload_n E rfl dX6_letPass_49 ?_
        try dsimp only at hk
        exact or_iret E F dX6_letPass_50 (Nat.le_refl _) (Nat.le_refl _) hk
      · replace hk := ite_n (P := fun r : Int32 × ow_I => K (some (.int ((r).1))) (S, (r).2, V, z)) q6 hk
        refine or_aload_n E rfl dX6_letPass_9 ?_
        refine or_cV0r (cK_isIdle  h_a ) E lk_6_187 dX6_letPass_10 h_a.1 rfl rfl (by decide) (by decide) ⟨Nat.le_refl _, Nat.le_refl _⟩ (Nat.le_of_ble_eq_true rfl) ?_
        refine or_if_eqZ 33 E dX6_letPass_13 rfl (fun q13 => ?_) (fun q13 => ?_)
        · replace hk := ite_n (P := fun r : Int32 × ow_I => K (some (.int ((r).1))) (S, (r).2, V, z)) (bz_neg q13) hk
          refine or_aload_n E rfl dX6_letPass_33 ?_
          refine or_cV0r (cK_passOneMinute  h_a (hL 0)) E lk_6_190 dX6_letPass_34 h_a.1 rfl rfl (by decide) (by decide) ⟨Nat.le_refl _, Nat.le_refl _⟩ (Nat.le_of_ble_eq_true rfl) ?_
          obtain ⟨r1, hr1⟩ : ∃ y_ : Bool × ow_I, y_ = K_passOneMinute a I := ⟨_, rfl⟩
          replace hk := lt_k (P := fun r : Int32 × ow_I => K (some (.int ((r).1))) (S, (r).2, V, z)) hr1 hk
          refine or_nmZ hr1 ?_
          refine or_if_eqZ 43 E dX6_letPass_37 rfl (fun q37 => ?_) (fun q37 => ?_)
          · replace hk := ite_n (P := fun r : Int32 × ow_I => K (some (.int ((r).1))) (S, (r).2, V, z)) (bz_neg q37) hk
            refine or_iincN (c := 1) E dX6_letPass_43 rfl rfl (by decide) ?_
            refine or_goto 4 E dX6_letPass_46 rfl ?_
            refine or_lv _ ?_ (ih _ _ _ (by subst hr1; exact (fun n => hL (n + 1))) (by omega) (by omega) hk)
            rfl
          · replace hk := ite_p (P := fun r : Int32 × ow_I => K (some (.int ((r).1))) (S, (r).2, V, z)) q37 hk
            refine or_iincN (c := 1) E dX6_letPass_40 rfl rfl (by decide) ?_
            refine or_iincN (c := 1) E dX6_letPass_43 rfl rfl (by decide) ?_
            refine or_goto 4 E dX6_letPass_46 rfl ?_
            refine or_lv _ ?_ (ih _ _ _ (by subst hr1; exact (fun n => hL (n + 1))) (by omega) (by omega) hk)
            rfl
        · replace hk := ite_p (P := fun r : Int32 × ow_I => K (some (.int ((r).1))) (S, (r).2, V, z)) q13 hk
          refine or_aload_n E rfl dX6_letPass_16 ?_
          refine ot_getC E fl_6_12 dX6_letPass_17 h_a.1 rfl ?_
          refine or_dup E rfl dX6_letPass_20 ?_
          refine ot_getI E fl_6_92 dX6_letPass_21 h_a.2.1 rfl ?_
          refine or_iload_n E rfl dX6_letPass_24 ?_
          refine or_iload_n E rfl dX6_letPass_25 ?_
          refine or_isubN E dX6_letPass_26 (by omega) ?_
          refine or_iadd E dX6_letPass_27 ?_
          refine ot_putI E fl_6_92 fw_8_2 dX6_letPass_28 h_a.2.1 rfl ?_
          obtain ⟨I2, hI2⟩ : ∃ y_ : ow_I, y_ = ow_u I (a + 1) 2 (I (a + 1) 2 + (nI (n2 - i))) := ⟨_, rfl⟩
          replace hk := lt_k (P := fun r : Int32 × ow_I => K (some (.int ((r).1))) (S, (r).2, V, z)) hI2 hk
          refine or_nmI hI2 ?_
          refine or_iload_n E rfl dX6_letPass_31 ?_
          try dsimp only at hk
          exact or_iret E F dX6_letPass_32 (Nat.le_refl _) (Nat.le_refl _) hk
  dsimp only [K_letPass] at hk
  refine or_iconst (v := nI 0) E rfl dX6_letPass_0 ?_
  refine or_istore_n E dX6_letPass_1 (by decide) ?_
  refine or_iconst (v := nI 0) E rfl dX6_letPass_2 ?_
  refine or_istore_n E dX6_letPass_3 (by decide) ?_
  refine or_lv _ ?_ (L4 (n2 + 1) _ _ _ hL (by omega) (by omega) hk)
  rfl
def H_remember (h : Nat) (a : Nat) (I : ow_I) : ow_I :=
  lt (K_copyFrom (h + 2 + 51 * (tn (I h 1))) a I) (fun (I1 : ow_I) => lt (ow_u I1 h 1 (nI ((tn (I h 1) + 1) % 8))) (fun (I2 : ow_I) => lt (ow_u I2 h 2 (i_min (I2 h 2 + (nI 1)) (nI 8))) (fun (I3 : ow_I) => I3)))
set_option maxRecDepth 100000 in
set_option maxHeartbeats 400000 in
theorem cH_remember {S : Nat → Option ow_Sh} {I : ow_I} {V : Nat → Nat → Value} {z : Nat} {h : Nat} {a : Nat} (h_h : hs_S S h) (h_a : mk_S S a) (hd : a + 51 ≤ h ∨ h + 410 ≤ a) (hn : 0 ≤ I h 1) (hnb : tn (I h 1) < 8) (g8 : 0 ≤ I a 8) (g8b : tn (I a 8) ≤ 6) (g10 : 0 ≤ I a 10) (g10b : tn (I a 10) ≤ 20) : ow_Cf yX4_remember cX4_remember 2 none 3 [.ref h, .ref a] (S, I, V, z) none (S, H_remember h a I, V, z) := by
  refine ow_Cf.of rfl (Nat.le_of_ble_eq_true rfl) (fun X K E F hk => ?_)
  have E : ow_E X RX4 cX4_remember 2 (ow_rm 3 0 0) := E
  refine or_lv [(0, .ref h), (1, .ref a)] rfl ?_
  dsimp only [H_remember] at hk
  refine or_aload_n E rfl dX4_remember_0 ?_
  refine ot_getC E fl_4_11 dX4_remember_1 h_h.1 rfl ?_
  refine or_aload_n E rfl dX4_remember_4 ?_
  refine ot_getI E fl_4_18 dX4_remember_5 h_h.1 rfl ?_
  refine or_top (nI_tn hn).symm ?_
  refine ot_aald (j := tn (I h 1)) E dX4_remember_8 h_h.2.1 rfl rfl (by omega) (Nat.le_of_ble_eq_true rfl) ?_
  refine or_aload_n E rfl dX4_remember_9 ?_
  refine or_cV1v (cK_copyFrom  (h_h.2.2 (tn (I h 1)) (by omega)) h_a (by omega) g8 g8b g10 g10b) E lk_4_22 dX4_remember_10 (h_h.2.2 (tn (I h 1)) (by omega)).1 rfl rfl (by decide) (by decide) ⟨Nat.le_refl _, Nat.le_refl _⟩ (Nat.le_of_ble_eq_true rfl) ?_
  obtain ⟨I1, hI1⟩ : ∃ y_ : ow_I, y_ = K_copyFrom (h + 2 + 51 * (tn (I h 1))) a I := ⟨_, rfl⟩
  replace hk := lt_k (P := fun r : ow_I => K none (S, r, V, z)) hI1 hk
  refine or_nmI hI1 ?_
  refine or_aload_n E rfl dX4_remember_13 ?_
  refine or_aload_n E rfl dX4_remember_14 ?_
  refine ot_getI E fl_4_18 dX4_remember_15 h_h.1 rfl ?_
  refine or_top (y := nI (tn (I h 1))) (by subst hI1; rw [(rr_kcp (by omega) (by omega) g8b g10b), nI_tn hn]) ?_
  refine or_iconst (v := nI 1) E rfl dX4_remember_18 ?_
  refine or_iaddN E dX4_remember_19 ?_
  refine or_bipush (v := nI 8) E rfl dX4_remember_20 ?_
  refine or_iremN E dX4_remember_22 (by omega) (by omega) (by omega) ?_
  refine ot_putI E fl_4_18 fw_4_1 dX4_remember_23 h_h.1 rfl ?_
  obtain ⟨I2, hI2⟩ : ∃ y_ : ow_I, y_ = ow_u I1 h 1 (nI ((tn (I h 1) + 1) % 8)) := ⟨_, rfl⟩
  replace hk := lt_k (P := fun r : ow_I => K none (S, r, V, z)) hI2 hk
  refine or_nmI hI2 ?_
  refine or_aload_n E rfl dX4_remember_26 ?_
  refine or_aload_n E rfl dX4_remember_27 ?_
  refine ot_getI E fl_4_26 dX4_remember_28 h_h.1 rfl ?_
  refine or_iconst (v := nI 1) E rfl dX4_remember_31 ?_
  refine or_iadd E dX4_remember_32 ?_
  refine or_bipush (v := nI 8) E rfl dX4_remember_33 ?_
  refine or_mmin E lm_4_29 dX4_remember_35 (Nat.le_of_ble_eq_true rfl) ⟨Nat.le_refl _, Nat.le_refl _⟩ (Nat.le_of_ble_eq_true rfl) ?_
  refine ot_putI E fl_4_26 fw_4_2 dX4_remember_38 h_h.1 rfl ?_
  obtain ⟨I3, hI3⟩ : ∃ y_ : ow_I, y_ = ow_u I2 h 2 (i_min (I2 h 2 + (nI 1)) (nI 8)) := ⟨_, rfl⟩
  replace hk := lt_k (P := fun r : ow_I => K none (S, r, V, z)) hI3 hk
  refine or_nmI hI3 ?_
  exact or_vret E F dX4_remember_41 (Nat.le_refl _) (Nat.le_refl _) hk
def U_addByte (u : Nat) (x : Int32) (I : ow_I) : ow_I :=
  if 500 ≤ tn (I u 1) then I else lt (ow_u I (u + 1) (tn (I u 1)) x) (fun (I1 : ow_I) => lt (ow_u I1 u 1 (I1 u 1 + (nI 1))) (fun (I2 : ow_I) => I2))
set_option maxRecDepth 100000 in
set_option maxHeartbeats 400000 in
theorem cU_addByte {S : Nat → Option ow_Sh} {I : ow_I} {V : Nat → Nat → Value} {z : Nat} {u : Nat} {x : Int32} (h_u : in_S S u) (h1 : 0 ≤ I u 1) (h1b : tn (I u 1) ≤ 500) : ow_Cf yX5_addByte cX5_addByte 2 none 0 [.ref u, .int x] (S, I, V, z) none (S, U_addByte u x I, V, z) := by
  refine ow_Cf.of rfl (Nat.le_of_ble_eq_true rfl) (fun X K E F hk => ?_)
  have E : ow_E X RX5 cX5_addByte 2 (ow_rm 0 0 0) := E
  refine or_lv [(0, .ref u), (1, .int x)] rfl ?_
  dsimp only [U_addByte] at hk
  refine or_aload_n E rfl dX5_addByte_0 ?_
  refine ot_getI E fl_5_39 dX5_addByte_1 h_u.1 rfl ?_
  refine or_top (nI_tn h1).symm ?_
  refine or_sipush (v := nI 500) E rfl dX5_addByte_4 ?_
  refine or_icmp_geN 30 E dX5_addByte_7 rfl (by omega) (by omega) (fun q7 => ?_) (fun q7 => ?_)
  · replace hk := ite_p (P := fun r : ow_I => K none (S, r, V, z)) q7 hk
    exact or_vret E F dX5_addByte_30 (Nat.le_refl _) (Nat.le_refl _) hk
  · replace hk := ite_n (P := fun r : ow_I => K none (S, r, V, z)) q7 hk
    refine or_aload_n E rfl dX5_addByte_10 ?_
    refine ot_getC E fl_5_9 dX5_addByte_11 h_u.1 rfl ?_
    refine or_aload_n E rfl dX5_addByte_14 ?_
    refine ot_getI E fl_5_39 dX5_addByte_15 h_u.1 rfl ?_
    refine or_top (nI_tn h1).symm ?_
    refine or_iload_n E rfl dX5_addByte_18 ?_
    refine ot_iast (j := tn (I u 1)) E dX5_addByte_19 h_u.2 rfl rfl (by omega) (Nat.le_of_ble_eq_true rfl) ?_
    obtain ⟨I1, hI1⟩ : ∃ y_ : ow_I, y_ = ow_u I (u + 1) (tn (I u 1)) x := ⟨_, rfl⟩
    replace hk := lt_k (P := fun r : ow_I => K none (S, r, V, z)) hI1 hk
    refine or_nmI hI1 ?_
    refine or_aload_n E rfl dX5_addByte_20 ?_
    refine or_dup E rfl dX5_addByte_21 ?_
    refine ot_getI E fl_5_39 dX5_addByte_22 h_u.1 rfl ?_
    refine or_iconst (v := nI 1) E rfl dX5_addByte_25 ?_
    refine or_iadd E dX5_addByte_26 ?_
    refine ot_putI E fl_5_39 fw_5_1 dX5_addByte_27 h_u.1 rfl ?_
    obtain ⟨I2, hI2⟩ : ∃ y_ : ow_I, y_ = ow_u I1 u 1 (I1 u 1 + (nI 1)) := ⟨_, rfl⟩
    replace hk := lt_k (P := fun r : ow_I => K none (S, r, V, z)) hI2 hk
    refine or_nmI hI2 ?_
    exact or_vret E F dX5_addByte_30 (Nat.le_refl _) (Nat.le_refl _) hk
def U_kindAt (u : Nat) (i : Int32) (I : ow_I) : Int32 :=
  if i < 0 then nI 0 else if i < I u 1 then if I (u + 1) (tn i) < nI 97 then if I (u + 1) (tn i) < nI 48 then if I (u + 1) (tn i) = nI 59 then nI 3 else nI 4 else if nI 57 < I (u + 1) (tn i) then if I (u + 1) (tn i) = nI 59 then nI 3 else nI 4 else nI 2 else if nI 122 < I (u + 1) (tn i) then if I (u + 1) (tn i) < nI 48 then if I (u + 1) (tn i) = nI 59 then nI 3 else nI 4 else if nI 57 < I (u + 1) (tn i) then if I (u + 1) (tn i) = nI 59 then nI 3 else nI 4 else nI 2 else nI 1 else nI 0
set_option maxRecDepth 100000 in
set_option maxHeartbeats 400000 in
theorem cU_kindAt {S : Nat → Option ow_Sh} {I : ow_I} {V : Nat → Nat → Value} {z : Nat} {u : Nat} {i : Int32} (h_u : in_S S u) (h1 : 0 ≤ I u 1) (h1b : tn (I u 1) ≤ 500) : ow_Cf yX5_kindAt cX5_kindAt 3 (some .int) 0 [.ref u, .int i] (S, I, V, z) (some (.int (U_kindAt u i I))) (S, I, V, z) := by
  refine ow_Cf.of rfl (Nat.le_of_ble_eq_true rfl) (fun X K E F hk => ?_)
  have E : ow_E X RX5 cX5_kindAt 3 (ow_rm 0 0 0) := E
  refine or_lv [(0, .ref u), (1, .int i)] rfl ?_
  dsimp only [U_kindAt] at hk
  refine or_iload_n E rfl dX5_kindAt_0 ?_
  refine or_if_lt 12 E dX5_kindAt_1 rfl (fun q1 => ?_) (fun q1 => ?_)
  · replace hk := ite_p (P := fun r : Int32 => K (some (.int (r))) (S, I, V, z)) q1 hk
    refine or_iconst (v := nI 0) E rfl dX5_kindAt_12 ?_
    exact or_iret E F dX5_kindAt_13 (Nat.le_refl _) (Nat.le_refl _) hk
  · replace hk := ite_n (P := fun r : Int32 => K (some (.int (r))) (S, I, V, z)) q1 hk
    refine or_iload_n E rfl dX5_kindAt_4 ?_
    refine or_aload_n E rfl dX5_kindAt_5 ?_
    refine ot_getI E fl_5_39 dX5_kindAt_6 h_u.1 rfl ?_
    refine or_icmp_lt 14 E dX5_kindAt_9 rfl (fun q9 => ?_) (fun q9 => ?_)
    · replace hk := ite_p (P := fun r : Int32 => K (some (.int (r))) (S, I, V, z)) q9 hk
      refine or_aload_n E rfl dX5_kindAt_14 ?_
      refine ot_getC E fl_5_9 dX5_kindAt_15 h_u.1 rfl ?_
      refine or_iload_n E rfl dX5_kindAt_18 ?_
      refine or_top (nI_tn (i_nlt q1)).symm ?_
      refine ot_iald (j := tn i) E dX5_kindAt_19 h_u.2 rfl rfl (by have := (lt_tn q9 (i_nlt q1)).2; omega) (Nat.le_of_ble_eq_true rfl) ?_
      refine or_istore_n E dX5_kindAt_20 (by decide) ?_
      refine or_iload_n E rfl dX5_kindAt_21 ?_
      refine or_bipush (v := nI 97) E rfl dX5_kindAt_22 ?_
      refine or_icmp_lt 35 E dX5_kindAt_24 rfl (fun q24 => ?_) (fun q24 => ?_)
      · replace hk := ite_p (P := fun r : Int32 => K (some (.int (r))) (S, I, V, z)) q24 hk
        refine or_iload_n E rfl dX5_kindAt_35 ?_
        refine or_bipush (v := nI 48) E rfl dX5_kindAt_36 ?_
        refine or_icmp_lt 49 E dX5_kindAt_38 rfl (fun q38 => ?_) (fun q38 => ?_)
        · replace hk := ite_p (P := fun r : Int32 => K (some (.int (r))) (S, I, V, z)) q38 hk
          refine or_iload_n E rfl dX5_kindAt_49 ?_
          refine or_bipush (v := nI 59) E rfl dX5_kindAt_50 ?_
          refine or_icmp_ne 59 E dX5_kindAt_52 rfl (fun q52 => ?_) (fun q52 => ?_)
          · replace hk := ite_n (P := fun r : Int32 => K (some (.int (r))) (S, I, V, z)) q52 hk
            refine or_iconst (v := nI 4) E rfl dX5_kindAt_59 ?_
            exact or_iret E F dX5_kindAt_60 (Nat.le_refl _) (Nat.le_refl _) hk
          · replace hk := ite_p (P := fun r : Int32 => K (some (.int (r))) (S, I, V, z)) q52 hk
            refine or_iconst (v := nI 3) E rfl dX5_kindAt_55 ?_
            refine or_goto 60 E dX5_kindAt_56 rfl ?_
            exact or_iret E F dX5_kindAt_60 (Nat.le_refl _) (Nat.le_refl _) hk
        · replace hk := ite_n (P := fun r : Int32 => K (some (.int (r))) (S, I, V, z)) q38 hk
          refine or_iload_n E rfl dX5_kindAt_41 ?_
          refine or_bipush (v := nI 57) E rfl dX5_kindAt_42 ?_
          refine or_icmp_gt 49 E dX5_kindAt_44 rfl (fun q44 => ?_) (fun q44 => ?_)
          · replace hk := ite_p (P := fun r : Int32 => K (some (.int (r))) (S, I, V, z)) q44 hk
            refine or_iload_n E rfl dX5_kindAt_49 ?_
            refine or_bipush (v := nI 59) E rfl dX5_kindAt_50 ?_
            refine or_icmp_ne 59 E dX5_kindAt_52 rfl (fun q52 => ?_) (fun q52 => ?_)
            · replace hk := ite_n (P := fun r : Int32 => K (some (.int (r))) (S, I, V, z)) q52 hk
              refine or_iconst (v := nI 4) E rfl dX5_kindAt_59 ?_
              exact or_iret E F dX5_kindAt_60 (Nat.le_refl _) (Nat.le_refl _) hk
            · replace hk := ite_p (P := fun r : Int32 => K (some (.int (r))) (S, I, V, z)) q52 hk
              refine or_iconst (v := nI 3) E rfl dX5_kindAt_55 ?_
              refine or_goto 60 E dX5_kindAt_56 rfl ?_
              exact or_iret E F dX5_kindAt_60 (Nat.le_refl _) (Nat.le_refl _) hk
          · replace hk := ite_n (P := fun r : Int32 => K (some (.int (r))) (S, I, V, z)) q44 hk
            refine or_iconst (v := nI 2) E rfl dX5_kindAt_47 ?_
            exact or_iret E F dX5_kindAt_48 (Nat.le_refl _) (Nat.le_refl _) hk
      · replace hk := ite_n (P := fun r : Int32 => K (some (.int (r))) (S, I, V, z)) q24 hk
        refine or_iload_n E rfl dX5_kindAt_27 ?_
        refine or_bipush (v := nI 122) E rfl dX5_kindAt_28 ?_
        refine or_icmp_gt 35 E dX5_kindAt_30 rfl (fun q30 => ?_) (fun q30 => ?_)
        · replace hk := ite_p (P := fun r : Int32 => K (some (.int (r))) (S, I, V, z)) q30 hk
          refine or_iload_n E rfl dX5_kindAt_35 ?_
          refine or_bipush (v := nI 48) E rfl dX5_kindAt_36 ?_
          refine or_icmp_lt 49 E dX5_kindAt_38 rfl (fun q38 => ?_) (fun q38 => ?_)
          · replace hk := ite_p (P := fun r : Int32 => K (some (.int (r))) (S, I, V, z)) q38 hk
            refine or_iload_n E rfl dX5_kindAt_49 ?_
            refine or_bipush (v := nI 59) E rfl dX5_kindAt_50 ?_
            refine or_icmp_ne 59 E dX5_kindAt_52 rfl (fun q52 => ?_) (fun q52 => ?_)
            · replace hk := ite_n (P := fun r : Int32 => K (some (.int (r))) (S, I, V, z)) q52 hk
              refine or_iconst (v := nI 4) E rfl dX5_kindAt_59 ?_
              exact or_iret E F dX5_kindAt_60 (Nat.le_refl _) (Nat.le_refl _) hk
            · replace hk := ite_p (P := fun r : Int32 => K (some (.int (r))) (S, I, V, z)) q52 hk
              refine or_iconst (v := nI 3) E rfl dX5_kindAt_55 ?_
              refine or_goto 60 E dX5_kindAt_56 rfl ?_
              exact or_iret E F dX5_kindAt_60 (Nat.le_refl _) (Nat.le_refl _) hk
          · replace hk := ite_n (P := fun r : Int32 => K (some (.int (r))) (S, I, V, z)) q38 hk
            refine or_iload_n E rfl dX5_kindAt_41 ?_
            refine or_bipush (v := nI 57) E rfl dX5_kindAt_42 ?_
            refine or_icmp_gt 49 E dX5_kindAt_44 rfl (fun q44 => ?_) (fun q44 => ?_)
            · replace hk := ite_p (P := fun r : Int32 => K (some (.int (r))) (S, I, V, z)) q44 hk
              refine or_iload_n E rfl dX5_kindAt_49 ?_
              refine or_bipush (v := nI 59) E rfl dX5_kindAt_50 ?_
              refine or_icmp_ne 59 E dX5_kindAt_52 rfl (fun q52 => ?_) (fun q52 => ?_)
              · replace hk := ite_n (P := fun r : Int32 => K (some (.int (r))) (S, I, V, z)) q52 hk
                refine or_iconst (v := nI 4) E rfl dX5_kindAt_59 ?_
                exact or_iret E F dX5_kindAt_60 (Nat.le_refl _) (Nat.le_refl _) hk
              · replace hk := ite_p (P := fun r : Int32 => K (some (.int (r))) (S, I, V, z)) q52 hk
                refine or_iconst (v := nI 3) E rfl dX5_kindAt_55 ?_
                refine or_goto 60 E dX5_kindAt_56 rfl ?_
                exact or_iret E F dX5_kindAt_60 (Nat.le_refl _) (Nat.le_refl _) hk
            · replace hk := ite_n (P := fun r : Int32 => K (some (.int (r))) (S, I, V, z)) q44 hk
              refine or_iconst (v := nI 2) E rfl dX5_kindAt_47 ?_
              exact or_iret E F dX5_kindAt_48 (Nat.le_refl _) (Nat.le_refl _) hk
        · replace hk := ite_n (P := fun r : Int32 => K (some (.int (r))) (S, I, V, z)) q30 hk
          refine or_iconst (v := nI 1) E rfl dX5_kindAt_33 ?_
          exact or_iret E F dX5_kindAt_34 (Nat.le_refl _) (Nat.le_refl _) hk
    · replace hk := ite_n (P := fun r : Int32 => K (some (.int (r))) (S, I, V, z)) q9 hk
      refine or_iconst (v := nI 0) E rfl dX5_kindAt_12 ?_
      exact or_iret E F dX5_kindAt_13 (Nat.le_refl _) (Nat.le_refl _) hk
