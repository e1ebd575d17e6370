theorem lk_11_305 : ow_lv RX11 305 yX11_lacksBuyer cX11_lacksBuyer 2 (some .boolean) 1 := ⟨ow_T_in 1984 (by decide +kernel) (by decide +kernel), ow_T_in 1986 (by decide +kernel) (by decide +kernel), ow_T_sel 104 (by decide +kernel) (by decide +kernel), ow_T_in 19 (by decide +kernel) (by decide +kernel), ow_T_in 1987 (by decide +kernel) (by decide +kernel), ⟨by decide +kernel, by decide +kernel, by decide +kernel⟩⟩
theorem lk_11_308 : ow_lv RX11 308 yX11_lacksBarrel cX11_lacksBarrel 2 (some .boolean) 1 := ⟨ow_T_in 2000 (by decide +kernel) (by decide +kernel), ow_T_in 2002 (by decide +kernel) (by decide +kernel), ow_T_sel 105 (by decide +kernel) (by decide +kernel), ow_T_in 19 (by decide +kernel) (by decide +kernel), ow_T_in 2003 (by decide +kernel) (by decide +kernel), ⟨by decide +kernel, by decide +kernel, by decide +kernel⟩⟩
theorem lk_11_311 : ow_lv RX11 311 yX11_middleOf cX11_middleOf 5 (some .int) 1 := ⟨ow_T_in 2112 (by decide +kernel) (by decide +kernel), ow_T_in 2114 (by decide +kernel) (by decide +kernel), ow_T_sel 106 (by decide +kernel) (by decide +kernel), ow_T_in 19 (by decide +kernel) (by decide +kernel), ow_T_in 2115 (by decide +kernel) (by decide +kernel), ⟨by decide +kernel, by decide +kernel, by decide +kernel⟩⟩
theorem lk_11_314 : ow_lv RX11 314 yX11_endTrial cX11_endTrial 2 (some .int) 1 := ⟨ow_T_in 2188 (by decide +kernel) (by decide +kernel), ow_T_in 2190 (by decide +kernel) (by decide +kernel), ow_T_sel 107 (by decide +kernel) (by decide +kernel), ow_T_in 19 (by decide +kernel) (by decide +kernel), ow_T_in 2191 (by decide +kernel) (by decide +kernel), ⟨by decide +kernel, by decide +kernel, by decide +kernel⟩⟩
theorem lk_11_317 : ow_lv RX11 317 yX11_coinsWith cX11_coinsWith 3 (some .int) 2 := ⟨ow_T_in 2200 (by decide +kernel) (by decide +kernel), ow_T_in 2202 (by decide +kernel) (by decide +kernel), ow_T_sel 108 (by decide +kernel) (by decide +kernel), ow_T_in 19 (by decide +kernel) (by decide +kernel), ow_T_in 2203 (by decide +kernel) (by decide +kernel), ⟨by decide +kernel, by decide +kernel, by decide +kernel⟩⟩
def M_nextBid (m : Nat) (I : ow_I) : Int32 × ow_I :=
  lt (ow_u I m 18 (nI 0)) (fun (I1 : ow_I) => if 0 ≤ I1 (m + 1) 8 then (M_bidNext m I1, I1) else ((-1), I1))
set_option maxRecDepth 100000 in
set_option maxHeartbeats 400000 in
theorem cM_nextBid {S : Nat → Option ow_Sh} {I : ow_I} {V : Nat → Nat → Value} {z : Nat} {m : Nat} (h_m : md_S S m) (hv : md_V (I (m + 1))) : ow_Cf yX11_nextBid cX11_nextBid 1 (some .int) 2 [.ref m] (S, I, V, z) (some (.int ((M_nextBid m I).1))) (S, (M_nextBid m I).2, V, z) := by
  refine ow_Cf.of rfl (Nat.le_of_ble_eq_true rfl) (fun X K E F hk => ?_)
  have E : ow_E X RX11 cX11_nextBid 1 (ow_rm 2 0 0) := E
  refine or_lv [(0, .ref m)] rfl ?_
  dsimp only [M_nextBid] at hk
  refine or_aload_n E rfl dX11_nextBid_0 ?_
  refine or_iconst (v := nI 0) E rfl dX11_nextBid_1 ?_
  refine ot_putI E fl_11_54 fw_11_18 dX11_nextBid_2 h_m.1 rfl ?_
  obtain ⟨I1, hI1⟩ : ∃ y_ : ow_I, y_ = ow_u I m 18 (nI 0) := ⟨_, rfl⟩
  replace hk := lt_k (P := fun r : Int32 × ow_I => K (some (.int ((r).1))) (S, (r).2, V, z)) hI1 hk
  refine or_nmI hI1 ?_
  refine or_aload_n E rfl dX11_nextBid_5 ?_
  refine ot_getC E fl_11_7 dX11_nextBid_6 h_m.1 rfl ?_
  refine or_bipush (v := nI 8) E rfl dX11_nextBid_9 ?_
  refine ot_iald (j := 8) E dX11_nextBid_11 h_m.2.1 rfl rfl (by omega) (Nat.le_of_ble_eq_true rfl) ?_
  refine or_if_ge 19 E dX11_nextBid_12 rfl (fun q12 => ?_) (fun q12 => ?_)
  · replace hk := ite_p (P := fun r : Int32 × ow_I => K (some (.int ((r).1))) (S, (r).2, V, z)) q12 hk
    refine or_aload_n E rfl dX11_nextBid_19 ?_
    refine or_cV0r (cM_bidNext  h_m (by subst hI1; have h8 := q12; simp (disch := decide) only [u_A] at h8 ⊢; exact fun _ => ⟨h8, mdV_8' hv⟩)) E lk_11_109 dX11_nextBid_20 h_m.1 rfl rfl (by decide) (by decide) ⟨Nat.le_refl _, Nat.le_refl _⟩ (Nat.le_of_ble_eq_true rfl) ?_
    try dsimp only at hk
    exact or_iret E F dX11_nextBid_23 (Nat.le_refl _) (Nat.le_refl _) hk
  · replace hk := ite_n (P := fun r : Int32 × ow_I => K (some (.int ((r).1))) (S, (r).2, V, z)) q12 hk
    refine or_iconst (v := -1) E rfl dX11_nextBid_15 ?_
    refine or_goto 23 E dX11_nextBid_16 rfl ?_
    try dsimp only at hk
    exact or_iret E F dX11_nextBid_23 (Nat.le_refl _) (Nat.le_refl _) hk
def M_quiet (m : Nat) (I : ow_I) : Int32 × ow_I :=
  lt (ow_u I m 18 (nI 0)) (fun (I1 : ow_I) => if 0 ≤ I1 (m + 1) 8 then (I1 (m + 1) 11, I1) else ((-1), I1))
set_option maxRecDepth 100000 in
set_option maxHeartbeats 400000 in
theorem cM_quiet {S : Nat → Option ow_Sh} {I : ow_I} {V : Nat → Nat → Value} {z : Nat} {m : Nat} (h_m : md_S S m)  : ow_Cf yX11_quiet cX11_quiet 1 (some .int) 0 [.ref m] (S, I, V, z) (some (.int ((M_quiet m I).1))) (S, (M_quiet m I).2, V, z) := by
  refine ow_Cf.of rfl (Nat.le_of_ble_eq_true rfl) (fun X K E F hk => ?_)
  have E : ow_E X RX11 cX11_quiet 1 (ow_rm 0 0 0) := E
  refine or_lv [(0, .ref m)] rfl ?_
  dsimp only [M_quiet] at hk
  refine or_aload_n E rfl dX11_quiet_0 ?_
  refine or_iconst (v := nI 0) E rfl dX11_quiet_1 ?_
  refine ot_putI E fl_11_54 fw_11_18 dX11_quiet_2 h_m.1 rfl ?_
  obtain ⟨I1, hI1⟩ : ∃ y_ : ow_I, y_ = ow_u I m 18 (nI 0) := ⟨_, rfl⟩
  replace hk := lt_k (P := fun r : Int32 × ow_I => K (some (.int ((r).1))) (S, (r).2, V, z)) hI1 hk
  refine or_nmI hI1 ?_
  refine or_aload_n E rfl dX11_quiet_5 ?_
  refine ot_getC E fl_11_7 dX11_quiet_6 h_m.1 rfl ?_
  refine or_bipush (v := nI 8) E rfl dX11_quiet_9 ?_
  refine ot_iald (j := 8) E dX11_quiet_11 h_m.2.1 rfl rfl (by omega) (Nat.le_of_ble_eq_true rfl) ?_
  refine or_if_ge 19 E dX11_quiet_12 rfl (fun q12 => ?_) (fun q12 => ?_)
  · replace hk := ite_p (P := fun r : Int32 × ow_I => K (some (.int ((r).1))) (S, (r).2, V, z)) q12 hk
    refine or_aload_n E rfl dX11_quiet_19 ?_
    refine ot_getC E fl_11_7 dX11_quiet_20 h_m.1 rfl ?_
    refine or_bipush (v := nI 11) E rfl dX11_quiet_23 ?_
    refine ot_iald (j := 11) E dX11_quiet_25 h_m.2.1 rfl rfl (by omega) (Nat.le_of_ble_eq_true rfl) ?_
    try dsimp only at hk
    exact or_iret E F dX11_quiet_26 (Nat.le_refl _) (Nat.le_refl _) hk
  · replace hk := ite_n (P := fun r : Int32 × ow_I => K (some (.int ((r).1))) (S, (r).2, V, z)) q12 hk
    refine or_iconst (v := -1) E rfl dX11_quiet_15 ?_
    refine or_goto 26 E dX11_quiet_16 rfl ?_
    try dsimp only at hk
    exact or_iret E F dX11_quiet_26 (Nat.le_refl _) (Nat.le_refl _) hk
def M_queuedBarrel (m : Nat) (p : Int32) (I : ow_I) : Int32 × ow_I :=
  lt (ow_u I m 18 (nI 0)) (fun (I1 : ow_I) => if p < 0 then ((-1), I1) else if I1 (m + 1) 12 ≤ p then ((-1), I1) else (I1 (m + 1) (16 + (tn p)), I1))
set_option maxRecDepth 100000 in
set_option maxHeartbeats 400000 in
theorem cM_queuedBarrel {S : Nat → Option ow_Sh} {I : ow_I} {V : Nat → Nat → Value} {z : Nat} {m : Nat} {p : Int32} (h_m : md_S S m) (hv : md_V (I (m + 1))) : ow_Cf yX11_queuedBarrel cX11_queuedBarrel 2 (some .int) 0 [.ref m, .int p] (S, I, V, z) (some (.int ((M_queuedBarrel m p I).1))) (S, (M_queuedBarrel m p I).2, V, z) := by
  refine ow_Cf.of rfl (Nat.le_of_ble_eq_true rfl) (fun X K E F hk => ?_)
  have E : ow_E X RX11 cX11_queuedBarrel 2 (ow_rm 0 0 0) := E
  refine or_lv [(0, .ref m), (1, .int p)] rfl ?_
  dsimp only [M_queuedBarrel] at hk
  refine or_aload_n E rfl dX11_queuedBarrel_0 ?_
  refine or_iconst (v := nI 0) E rfl dX11_queuedBarrel_1 ?_
  refine ot_putI E fl_11_54 fw_11_18 dX11_queuedBarrel_2 h_m.1 rfl ?_
  obtain ⟨I1, hI1⟩ : ∃ y_ : ow_I, y_ = ow_u I m 18 (nI 0) := ⟨_, rfl⟩
  replace hk := lt_k (P := fun r : Int32 × ow_I => K (some (.int ((r).1))) (S, (r).2, V, z)) hI1 hk
  refine or_nmI hI1 ?_
  refine or_iload_n E rfl dX11_queuedBarrel_5 ?_
  refine or_if_lt 32 E dX11_queuedBarrel_6 rfl (fun q6 => ?_) (fun q6 => ?_)
  · replace hk := ite_p (P := fun r : Int32 × ow_I => K (some (.int ((r).1))) (S, (r).2, V, z)) q6 hk
    refine or_iconst (v := -1) E rfl dX11_queuedBarrel_32 ?_
    try dsimp only at hk
    exact or_iret E F dX11_queuedBarrel_33 (Nat.le_refl _) (Nat.le_refl _) hk
  · replace hk := ite_n (P := fun r : Int32 × ow_I => K (some (.int ((r).1))) (S, (r).2, V, z)) q6 hk
    refine or_iload_n E rfl dX11_queuedBarrel_9 ?_
    refine or_aload_n E rfl dX11_queuedBarrel_10 ?_
    refine ot_getC E fl_11_7 dX11_queuedBarrel_11 h_m.1 rfl ?_
    refine or_bipush (v := nI 12) E rfl dX11_queuedBarrel_14 ?_
    refine ot_iald (j := 12) E dX11_queuedBarrel_16 h_m.2.1 rfl rfl (by omega) (Nat.le_of_ble_eq_true rfl) ?_
    refine or_icmp_ge 32 E dX11_queuedBarrel_17 rfl (fun q17 => ?_) (fun q17 => ?_)
    · replace hk := ite_p (P := fun r : Int32 × ow_I => K (some (.int ((r).1))) (S, (r).2, V, z)) q17 hk
      refine or_iconst (v := -1) E rfl dX11_queuedBarrel_32 ?_
      try dsimp only at hk
      exact or_iret E F dX11_queuedBarrel_33 (Nat.le_refl _) (Nat.le_refl _) hk
    · replace hk := ite_n (P := fun r : Int32 × ow_I => K (some (.int ((r).1))) (S, (r).2, V, z)) q17 hk
      refine or_aload_n E rfl dX11_queuedBarrel_20 ?_
      refine ot_getC E fl_11_7 dX11_queuedBarrel_21 h_m.1 rfl ?_
      refine or_bipush (v := nI 16) E rfl dX11_queuedBarrel_24 ?_
      refine or_iload_n E rfl dX11_queuedBarrel_26 ?_
      refine or_top (nI_tn (by subst hI1; exact (i_nlt q6))).symm ?_
      refine or_iaddN E dX11_queuedBarrel_27 ?_
      refine ot_iald (j := 16 + (tn p)) E dX11_queuedBarrel_28 h_m.2.1 rfl rfl (by subst hI1; have h := i_lt q17; simp (disch := decide) only [u_A] at h; have := (lt_tn h (i_nlt q6)).2; have := hv.2.2.2.2.2.1.2; omega) (Nat.le_of_ble_eq_true rfl) ?_
      refine or_goto 33 E dX11_queuedBarrel_29 rfl ?_
      try dsimp only at hk
      exact or_iret E F dX11_queuedBarrel_33 (Nat.le_refl _) (Nat.le_refl _) hk
def M_eels (m : Nat) (b : Int32) (I : ow_I) : Int32 × ow_I :=
  lt (M_lacksBarrel m b I) (fun (r1 : Bool × ow_I) => if r1.1 then (nI 0, r1.2) else (M_ofBarrel m (tn b) 0 r1.2, r1.2))
set_option maxRecDepth 100000 in
set_option maxHeartbeats 400000 in
theorem cM_eels {S : Nat → Option ow_Sh} {I : ow_I} {V : Nat → Nat → Value} {z : Nat} {m : Nat} {b : Int32} (h_m : md_S S m) (hv : md_V (I (m + 1))) : ow_Cf yX11_eels cX11_eels 2 (some .int) 2 [.ref m, .int b] (S, I, V, z) (some (.int ((M_eels m b I).1))) (S, (M_eels m b I).2, V, z) := by
  refine ow_Cf.of rfl (Nat.le_of_ble_eq_true rfl) (fun X K E F hk => ?_)
  have E : ow_E X RX11 cX11_eels 2 (ow_rm 2 0 0) := E
  refine or_lv [(0, .ref m), (1, .int b)] rfl ?_
  dsimp only [M_eels] at hk
  refine or_aload_n E rfl dX11_eels_0 ?_
  refine or_iload_n E rfl dX11_eels_1 ?_
  refine or_cV1r (cM_lacksBarrel  h_m ) E lk_11_308 dX11_eels_2 h_m.1 rfl rfl (by decide) (by decide) ⟨Nat.le_refl _, Nat.le_refl _⟩ (Nat.le_of_ble_eq_true rfl) ?_
  obtain ⟨r1, hr1⟩ : ∃ y_ : Bool × ow_I, y_ = M_lacksBarrel m b I := ⟨_, rfl⟩
  replace hk := lt_k (P := fun r : Int32 × ow_I => K (some (.int ((r).1))) (S, (r).2, V, z)) hr1 hk
  refine or_nmZ hr1 ?_
  refine or_if_eqZ 10 E dX11_eels_5 rfl (fun q5 => ?_) (fun q5 => ?_)
  · replace hk := ite_n (P := fun r : Int32 × ow_I => K (some (.int ((r).1))) (S, (r).2, V, z)) (bz_neg q5) hk
    refine or_aload_n E rfl dX11_eels_10 ?_
    refine or_iload_n E rfl dX11_eels_11 ?_
    refine or_top (nI_tn (by subst hr1; exact (lB_1 hv q5).1)).symm ?_
    refine or_iconst (v := nI 0) E rfl dX11_eels_12 ?_
    refine or_cV2r (cM_ofBarrel  h_m (by subst hr1; have h := (lB_1 hv q5).2; have := hv.2.2.1; omega)) E lk_11_66 dX11_eels_13 h_m.1 rfl rfl (by decide) (by decide) ⟨Nat.le_refl _, Nat.le_refl _⟩ (Nat.le_of_ble_eq_true rfl) ?_
    try dsimp only at hk
    exact or_iret E F dX11_eels_16 (Nat.le_refl _) (Nat.le_refl _) hk
  · replace hk := ite_p (P := fun r : Int32 × ow_I => K (some (.int ((r).1))) (S, (r).2, V, z)) q5 hk
    refine or_iconst (v := nI 0) E rfl dX11_eels_8 ?_
    try dsimp only at hk
    exact or_iret E F dX11_eels_9 (Nat.le_refl _) (Nat.le_refl _) hk
def M_reserve (m : Nat) (b : Int32) (I : ow_I) : Int32 × ow_I :=
  lt (M_lacksBarrel m b I) (fun (r1 : Bool × ow_I) => if r1.1 then (nI 0, r1.2) else (M_ofBarrel m (tn b) 10 r1.2, r1.2))
set_option maxRecDepth 100000 in
set_option maxHeartbeats 400000 in
theorem cM_reserve {S : Nat → Option ow_Sh} {I : ow_I} {V : Nat → Nat → Value} {z : Nat} {m : Nat} {b : Int32} (h_m : md_S S m) (hv : md_V (I (m + 1))) : ow_Cf yX11_reserve cX11_reserve 2 (some .int) 2 [.ref m, .int b] (S, I, V, z) (some (.int ((M_reserve m b I).1))) (S, (M_reserve m b I).2, V, z) := by
  refine ow_Cf.of rfl (Nat.le_of_ble_eq_true rfl) (fun X K E F hk => ?_)
  have E : ow_E X RX11 cX11_reserve 2 (ow_rm 2 0 0) := E
  refine or_lv [(0, .ref m), (1, .int b)] rfl ?_
  dsimp only [M_reserve] at hk
  refine or_aload_n E rfl dX11_reserve_0 ?_
  refine or_iload_n E rfl dX11_reserve_1 ?_
  refine or_cV1r (cM_lacksBarrel  h_m ) E lk_11_308 dX11_reserve_2 h_m.1 rfl rfl (by decide) (by decide) ⟨Nat.le_refl _, Nat.le_refl _⟩ (Nat.le_of_ble_eq_true rfl) ?_
  obtain ⟨r1, hr1⟩ : ∃ y_ : Bool × ow_I, y_ = M_lacksBarrel m b I := ⟨_, rfl⟩
  replace hk := lt_k (P := fun r : Int32 × ow_I => K (some (.int ((r).1))) (S, (r).2, V, z)) hr1 hk
  refine or_nmZ hr1 ?_
  refine or_if_eqZ 10 E dX11_reserve_5 rfl (fun q5 => ?_) (fun q5 => ?_)
  · replace hk := ite_n (P := fun r : Int32 × ow_I => K (some (.int ((r).1))) (S, (r).2, V, z)) (bz_neg q5) hk
    refine or_aload_n E rfl dX11_reserve_10 ?_
    refine or_iload_n E rfl dX11_reserve_11 ?_
    refine or_top (nI_tn (by subst hr1; exact (lB_1 hv q5).1)).symm ?_
    refine or_bipush (v := nI 10) E rfl dX11_reserve_12 ?_
    refine or_cV2r (cM_ofBarrel  h_m (by subst hr1; have h := (lB_1 hv q5).2; have := hv.2.2.1; omega)) E lk_11_66 dX11_reserve_14 h_m.1 rfl rfl (by decide) (by decide) ⟨Nat.le_refl _, Nat.le_refl _⟩ (Nat.le_of_ble_eq_true rfl) ?_
    try dsimp only at hk
    exact or_iret E F dX11_reserve_17 (Nat.le_refl _) (Nat.le_refl _) hk
  · replace hk := ite_p (P := fun r : Int32 × ow_I => K (some (.int ((r).1))) (S, (r).2, V, z)) q5 hk
    refine or_iconst (v := nI 0) E rfl dX11_reserve_8 ?_
    try dsimp only at hk
    exact or_iret E F dX11_reserve_9 (Nat.le_refl _) (Nat.le_refl _) hk
def M_stateOf (m : Nat) (b : Int32) (I : ow_I) : Int32 × ow_I :=
  lt (M_lacksBarrel m b I) (fun (r1 : Bool × ow_I) => if r1.1 then (nI 0, r1.2) else (M_ofBarrel m (tn b) 12 r1.2, r1.2))
set_option maxRecDepth 100000 in
set_option maxHeartbeats 400000 in
theorem cM_stateOf {S : Nat → Option ow_Sh} {I : ow_I} {V : Nat → Nat → Value} {z : Nat} {m : Nat} {b : Int32} (h_m : md_S S m) (hv : md_V (I (m + 1))) : ow_Cf yX11_stateOf cX11_stateOf 2 (some .int) 2 [.ref m, .int b] (S, I, V, z) (some (.int ((M_stateOf m b I).1))) (S, (M_stateOf m b I).2, V, z) := by
  refine ow_Cf.of rfl (Nat.le_of_ble_eq_true rfl) (fun X K E F hk => ?_)
  have E : ow_E X RX11 cX11_stateOf 2 (ow_rm 2 0 0) := E
  refine or_lv [(0, .ref m), (1, .int b)] rfl ?_
  dsimp only [M_stateOf] at hk
  refine or_aload_n E rfl dX11_stateOf_0 ?_
  refine or_iload_n E rfl dX11_stateOf_1 ?_
  refine or_cV1r (cM_lacksBarrel  h_m ) E lk_11_308 dX11_stateOf_2 h_m.1 rfl rfl (by decide) (by decide) ⟨Nat.le_refl _, Nat.le_refl _⟩ (Nat.le_of_ble_eq_true rfl) ?_
  obtain ⟨r1, hr1⟩ : ∃ y_ : Bool × ow_I, y_ = M_lacksBarrel m b I := ⟨_, rfl⟩
  replace hk := lt_k (P := fun r : Int32 × ow_I => K (some (.int ((r).1))) (S, (r).2, V, z)) hr1 hk
  refine or_nmZ hr1 ?_
  refine or_if_eqZ 10 E dX11_stateOf_5 rfl (fun q5 => ?_) (fun q5 => ?_)
  · replace hk := ite_n (P := fun r : Int32 × ow_I => K (some (.int ((r).1))) (S, (r).2, V, z)) (bz_neg q5) hk
    refine or_aload_n E rfl dX11_stateOf_10 ?_
    refine or_iload_n E rfl dX11_stateOf_11 ?_
    refine or_top (nI_tn (by subst hr1; exact (lB_1 hv q5).1)).symm ?_
    refine or_bipush (v := nI 12) E rfl dX11_stateOf_12 ?_
    refine or_cV2r (cM_ofBarrel  h_m (by subst hr1; have h := (lB_1 hv q5).2; have := hv.2.2.1; omega)) E lk_11_66 dX11_stateOf_14 h_m.1 rfl rfl (by decide) (by decide) ⟨Nat.le_refl _, Nat.le_refl _⟩ (Nat.le_of_ble_eq_true rfl) ?_
    try dsimp only at hk
    exact or_iret E F dX11_stateOf_17 (Nat.le_refl _) (Nat.le_refl _) hk
  · replace hk := ite_p (P := fun r : Int32 × ow_I => K (some (.int ((r).1))) (S, (r).2, V, z)) q5 hk
    refine or_iconst (v := nI 0) E rfl dX11_stateOf_8 ?_
    try dsimp only at hk
    exact or_iret E F dX11_stateOf_9 (Nat.le_refl _) (Nat.le_refl _) hk
def M_returns (m : Nat) (b : Int32) (I : ow_I) : Int32 × ow_I :=
  lt (M_lacksBarrel m b I) (fun (r1 : Bool × ow_I) => if r1.1 then (nI 0, r1.2) else (M_ofBarrel m (tn b) 11 r1.2, r1.2))
set_option maxRecDepth 100000 in
set_option maxHeartbeats 400000 in
theorem cM_returns {S : Nat → Option ow_Sh} {I : ow_I} {V : Nat → Nat → Value} {z : Nat} {m : Nat} {b : Int32} (h_m : md_S S m) (hv : md_V (I (m + 1))) : ow_Cf yX11_returns cX11_returns 2 (some .int) 2 [.ref m, .int b] (S, I, V, z) (some (.int ((M_returns m b I).1))) (S, (M_returns m b I).2, V, z) := by
  refine ow_Cf.of rfl (Nat.le_of_ble_eq_true rfl) (fun X K E F hk => ?_)
  have E : ow_E X RX11 cX11_returns 2 (ow_rm 2 0 0) := E
  refine or_lv [(0, .ref m), (1, .int b)] rfl ?_
  dsimp only [M_returns] at hk
  refine or_aload_n E rfl dX11_returns_0 ?_
  refine or_iload_n E rfl dX11_returns_1 ?_
  refine or_cV1r (cM_lacksBarrel  h_m ) E lk_11_308 dX11_returns_2 h_m.1 rfl rfl (by decide) (by decide) ⟨Nat.le_refl _, Nat.le_refl _⟩ (Nat.le_of_ble_eq_true rfl) ?_
  obtain ⟨r1, hr1⟩ : ∃ y_ : Bool × ow_I, y_ = M_lacksBarrel m b I := ⟨_, rfl⟩
  replace hk := lt_k (P := fun r : Int32 × ow_I => K (some (.int ((r).1))) (S, (r).2, V, z)) hr1 hk
  refine or_nmZ hr1 ?_
  refine or_if_eqZ 10 E dX11_returns_5 rfl (fun q5 => ?_) (fun q5 => ?_)
  · replace hk := ite_n (P := fun r : Int32 × ow_I => K (some (.int ((r).1))) (S, (r).2, V, z)) (bz_neg q5) hk
    refine or_aload_n E rfl dX11_returns_10 ?_
    refine or_iload_n E rfl dX11_returns_11 ?_
    refine or_top (nI_tn (by subst hr1; exact (lB_1 hv q5).1)).symm ?_
    refine or_bipush (v := nI 11) E rfl dX11_returns_12 ?_
    refine or_cV2r (cM_ofBarrel  h_m (by subst hr1; have h := (lB_1 hv q5).2; have := hv.2.2.1; omega)) E lk_11_66 dX11_returns_14 h_m.1 rfl rfl (by decide) (by decide) ⟨Nat.le_refl _, Nat.le_refl _⟩ (Nat.le_of_ble_eq_true rfl) ?_
    try dsimp only at hk
    exact or_iret E F dX11_returns_17 (Nat.le_refl _) (Nat.le_refl _) hk
  · replace hk := ite_p (P := fun r : Int32 × ow_I => K (some (.int ((r).1))) (S, (r).2, V, z)) q5 hk
    refine or_iconst (v := nI 0) E rfl dX11_returns_8 ?_
    try dsimp only at hk
    exact or_iret E F dX11_returns_9 (Nat.le_refl _) (Nat.le_refl _) hk
def M_buyerOf (m : Nat) (b : Int32) (I : ow_I) : Int32 × ow_I :=
  lt (M_lacksBarrel m b I) (fun (r1 : Bool × ow_I) => if r1.1 then (nI 0, r1.2) else (M_ofBarrel m (tn b) 13 r1.2, r1.2))
set_option maxRecDepth 100000 in
set_option maxHeartbeats 400000 in
theorem cM_buyerOf {S : Nat → Option ow_Sh} {I : ow_I} {V : Nat → Nat → Value} {z : Nat} {m : Nat} {b : Int32} (h_m : md_S S m) (hv : md_V (I (m + 1))) : ow_Cf yX11_buyerOf cX11_buyerOf 2 (some .int) 2 [.ref m, .int b] (S, I, V, z) (some (.int ((M_buyerOf m b I).1))) (S, (M_buyerOf m b I).2, V, z) := by
  refine ow_Cf.of rfl (Nat.le_of_ble_eq_true rfl) (fun X K E F hk => ?_)
  have E : ow_E X RX11 cX11_buyerOf 2 (ow_rm 2 0 0) := E
  refine or_lv [(0, .ref m), (1, .int b)] rfl ?_
  dsimp only [M_buyerOf] at hk
  refine or_aload_n E rfl dX11_buyerOf_0 ?_
  refine or_iload_n E rfl dX11_buyerOf_1 ?_
  refine or_cV1r (cM_lacksBarrel  h_m ) E lk_11_308 dX11_buyerOf_2 h_m.1 rfl rfl (by decide) (by decide) ⟨Nat.le_refl _, Nat.le_refl _⟩ (Nat.le_of_ble_eq_true rfl) ?_
  obtain ⟨r1, hr1⟩ : ∃ y_ : Bool × ow_I, y_ = M_lacksBarrel m b I := ⟨_, rfl⟩
  replace hk := lt_k (P := fun r : Int32 × ow_I => K (some (.int ((r).1))) (S, (r).2, V, z)) hr1 hk
  refine or_nmZ hr1 ?_
  refine or_if_eqZ 10 E dX11_buyerOf_5 rfl (fun q5 => ?_) (fun q5 => ?_)
  · replace hk := ite_n (P := fun r : Int32 × ow_I => K (some (.int ((r).1))) (S, (r).2, V, z)) (bz_neg q5) hk
    refine or_aload_n E rfl dX11_buyerOf_10 ?_
    refine or_iload_n E rfl dX11_buyerOf_11 ?_
    refine or_top (nI_tn (by subst hr1; exact (lB_1 hv q5).1)).symm ?_
    refine or_bipush (v := nI 13) E rfl dX11_buyerOf_12 ?_
    refine or_cV2r (cM_ofBarrel  h_m (by subst hr1; have h := (lB_1 hv q5).2; have := hv.2.2.1; omega)) E lk_11_66 dX11_buyerOf_14 h_m.1 rfl rfl (by decide) (by decide) ⟨Nat.le_refl _, Nat.le_refl _⟩ (Nat.le_of_ble_eq_true rfl) ?_
    try dsimp only at hk
    exact or_iret E F dX11_buyerOf_17 (Nat.le_refl _) (Nat.le_refl _) hk
  · replace hk := ite_p (P := fun r : Int32 × ow_I => K (some (.int ((r).1))) (S, (r).2, V, z)) q5 hk
    refine or_iconst (v := nI 0) E rfl dX11_buyerOf_8 ?_
    try dsimp only at hk
    exact or_iret E F dX11_buyerOf_9 (Nat.le_refl _) (Nat.le_refl _) hk
def M_priceOf (m : Nat) (b : Int32) (I : ow_I) : Int32 × ow_I :=
  lt (M_lacksBarrel m b I) (fun (r1 : Bool × ow_I) => if r1.1 then (nI 0, r1.2) else (M_ofBarrel m (tn b) 14 r1.2, r1.2))
set_option maxRecDepth 100000 in
set_option maxHeartbeats 400000 in
theorem cM_priceOf {S : Nat → Option ow_Sh} {I : ow_I} {V : Nat → Nat → Value} {z : Nat} {m : Nat} {b : Int32} (h_m : md_S S m) (hv : md_V (I (m + 1))) : ow_Cf yX11_priceOf cX11_priceOf 2 (some .int) 2 [.ref m, .int b] (S, I, V, z) (some (.int ((M_priceOf m b I).1))) (S, (M_priceOf m b I).2, V, z) := by
  refine ow_Cf.of rfl (Nat.le_of_ble_eq_true rfl) (fun X K E F hk => ?_)
  have E : ow_E X RX11 cX11_priceOf 2 (ow_rm 2 0 0) := E
  refine or_lv [(0, .ref m), (1, .int b)] rfl ?_
  dsimp only [M_priceOf] at hk
  refine or_aload_n E rfl dX11_priceOf_0 ?_
  refine or_iload_n E rfl dX11_priceOf_1 ?_
  refine or_cV1r (cM_lacksBarrel  h_m ) E lk_11_308 dX11_priceOf_2 h_m.1 rfl rfl (by decide) (by decide) ⟨Nat.le_refl _, Nat.le_refl _⟩ (Nat.le_of_ble_eq_true rfl) ?_
  obtain ⟨r1, hr1⟩ : ∃ y_ : Bool × ow_I, y_ = M_lacksBarrel m b I := ⟨_, rfl⟩
  replace hk := lt_k (P := fun r : Int32 × ow_I => K (some (.int ((r).1))) (S, (r).2, V, z)) hr1 hk
  refine or_nmZ hr1 ?_
  refine or_if_eqZ 10 E dX11_priceOf_5 rfl (fun q5 => ?_) (fun q5 => ?_)
  · replace hk := ite_n (P := fun r : Int32 × ow_I => K (some (.int ((r).1))) (S, (r).2, V, z)) (bz_neg q5) hk
    refine or_aload_n E rfl dX11_priceOf_10 ?_
    refine or_iload_n E rfl dX11_priceOf_11 ?_
    refine or_top (nI_tn (by subst hr1; exact (lB_1 hv q5).1)).symm ?_
    refine or_bipush (v := nI 14) E rfl dX11_priceOf_12 ?_
    refine or_cV2r (cM_ofBarrel  h_m (by subst hr1; have h := (lB_1 hv q5).2; have := hv.2.2.1; omega)) E lk_11_66 dX11_priceOf_14 h_m.1 rfl rfl (by decide) (by decide) ⟨Nat.le_refl _, Nat.le_refl _⟩ (Nat.le_of_ble_eq_true rfl) ?_
    try dsimp only at hk
    exact or_iret E F dX11_priceOf_17 (Nat.le_refl _) (Nat.le_refl _) hk
  · replace hk := ite_p (P := fun r : Int32 × ow_I => K (some (.int ((r).1))) (S, (r).2, V, z)) q5 hk
    refine or_iconst (v := nI 0) E rfl dX11_priceOf_8 ?_
    try dsimp only at hk
    exact or_iret E F dX11_priceOf_9 (Nat.le_refl _) (Nat.le_refl _) hk
def M_totalLength (m : Nat) (b : Int32) (I : ow_I) : Int32 × ow_I :=
  lt (M_lacksBarrel m b I) (fun (r1 : Bool × ow_I) => if r1.1 then (nI 0, r1.2) else (M_totalOf m (tn b) r1.2, r1.2))
set_option maxRecDepth 100000 in
set_option maxHeartbeats 400000 in
theorem cM_totalLength {S : Nat → Option ow_Sh} {I : ow_I} {V : Nat → Nat → Value} {z : Nat} {m : Nat} {b : Int32} (h_m : md_S S m) (hv : md_V (I (m + 1))) : ow_Cf yX11_totalLength cX11_totalLength 2 (some .int) 3 [.ref m, .int b] (S, I, V, z) (some (.int ((M_totalLength m b I).1))) (S, (M_totalLength m b I).2, V, z) := by
  refine ow_Cf.of rfl (Nat.le_of_ble_eq_true rfl) (fun X K E F hk => ?_)
  have E : ow_E X RX11 cX11_totalLength 2 (ow_rm 3 0 0) := E
  refine or_lv [(0, .ref m), (1, .int b)] rfl ?_
  dsimp only [M_totalLength] at hk
  refine or_aload_n E rfl dX11_totalLength_0 ?_
  refine or_iload_n E rfl dX11_totalLength_1 ?_
  refine or_cV1r (cM_lacksBarrel  h_m ) E lk_11_308 dX11_totalLength_2 h_m.1 rfl rfl (by decide) (by decide) ⟨Nat.le_refl _, Nat.le_refl _⟩ (Nat.le_of_ble_eq_true rfl) ?_
  obtain ⟨r1, hr1⟩ : ∃ y_ : Bool × ow_I, y_ = M_lacksBarrel m b I := ⟨_, rfl⟩
  replace hk := lt_k (P := fun r : Int32 × ow_I => K (some (.int ((r).1))) (S, (r).2, V, z)) hr1 hk
  refine or_nmZ hr1 ?_
  refine or_if_eqZ 10 E dX11_totalLength_5 rfl (fun q5 => ?_) (fun q5 => ?_)
  · replace hk := ite_n (P := fun r : Int32 × ow_I => K (some (.int ((r).1))) (S, (r).2, V, z)) (bz_neg q5) hk
    refine or_aload_n E rfl dX11_totalLength_10 ?_
    refine or_iload_n E rfl dX11_totalLength_11 ?_
    refine or_top (nI_tn (by subst hr1; exact (lB_1 hv q5).1)).symm ?_
    refine or_cV1r (cM_totalOf  h_m (by subst hr1; exact (lB_e hv q5).2.2.2) (by subst hr1; exact (lB_e hv q5).1) (by subst hr1; exact (lB_e hv q5).2.2.1)) E lk_11_89 dX11_totalLength_12 h_m.1 rfl rfl (by decide) (by decide) ⟨Nat.le_refl _, Nat.le_refl _⟩ (Nat.le_of_ble_eq_true rfl) ?_
    try dsimp only at hk
    exact or_iret E F dX11_totalLength_15 (Nat.le_refl _) (Nat.le_refl _) hk
  · replace hk := ite_p (P := fun r : Int32 × ow_I => K (some (.int ((r).1))) (S, (r).2, V, z)) q5 hk
    refine or_iconst (v := nI 0) E rfl dX11_totalLength_8 ?_
    try dsimp only at hk
    exact or_iret E F dX11_totalLength_9 (Nat.le_refl _) (Nat.le_refl _) hk
def M_greatestLength (m : Nat) (b : Int32) (I : ow_I) : Int32 × ow_I :=
  lt (M_lacksBarrel m b I) (fun (r1 : Bool × ow_I) => if r1.1 then (nI 0, r1.2) else (M_greatestOf m (tn b) r1.2, r1.2))
set_option maxRecDepth 100000 in
set_option maxHeartbeats 400000 in
theorem cM_greatestLength {S : Nat → Option ow_Sh} {I : ow_I} {V : Nat → Nat → Value} {z : Nat} {m : Nat} {b : Int32} (h_m : md_S S m) (hv : md_V (I (m + 1))) : ow_Cf yX11_greatestLength cX11_greatestLength 2 (some .int) 3 [.ref m, .int b] (S, I, V, z) (some (.int ((M_greatestLength m b I).1))) (S, (M_greatestLength m b I).2, V, z) := by
  refine ow_Cf.of rfl (Nat.le_of_ble_eq_true rfl) (fun X K E F hk => ?_)
  have E : ow_E X RX11 cX11_greatestLength 2 (ow_rm 3 0 0) := E
  refine or_lv [(0, .ref m), (1, .int b)] rfl ?_
  dsimp only [M_greatestLength] at hk
  refine or_aload_n E rfl dX11_greatestLength_0 ?_
  refine or_iload_n E rfl dX11_greatestLength_1 ?_
  refine or_cV1r (cM_lacksBarrel  h_m ) E lk_11_308 dX11_greatestLength_2 h_m.1 rfl rfl (by decide) (by decide) ⟨Nat.le_refl _, Nat.le_refl _⟩ (Nat.le_of_ble_eq_true rfl) ?_
  obtain ⟨r1, hr1⟩ : ∃ y_ : Bool × ow_I, y_ = M_lacksBarrel m b I := ⟨_, rfl⟩
  replace hk := lt_k (P := fun r : Int32 × ow_I => K (some (.int ((r).1))) (S, (r).2, V, z)) hr1 hk
  refine or_nmZ hr1 ?_
  refine or_if_eqZ 10 E dX11_greatestLength_5 rfl (fun q5 => ?_) (fun q5 => ?_)
  · replace hk := ite_n (P := fun r : Int32 × ow_I => K (some (.int ((r).1))) (S, (r).2, V, z)) (bz_neg q5) hk
    refine or_aload_n E rfl dX11_greatestLength_10 ?_
    refine or_iload_n E rfl dX11_greatestLength_11 ?_
    refine or_top (nI_tn (by subst hr1; exact (lB_1 hv q5).1)).symm ?_
    refine or_cV1r (cM_greatestOf  h_m (by subst hr1; exact (lB_e hv q5).2.2.2) (by subst hr1; exact (lB_e hv q5).1) (by subst hr1; exact (lB_e hv q5).2.2.1)) E lk_11_96 dX11_greatestLength_12 h_m.1 rfl rfl (by decide) (by decide) ⟨Nat.le_refl _, Nat.le_refl _⟩ (Nat.le_of_ble_eq_true rfl) ?_
    try dsimp only at hk
    exact or_iret E F dX11_greatestLength_15 (Nat.le_refl _) (Nat.le_refl _) hk
  · replace hk := ite_p (P := fun r : Int32 × ow_I => K (some (.int ((r).1))) (S, (r).2, V, z)) q5 hk
    refine or_iconst (v := nI 0) E rfl dX11_greatestLength_8 ?_
    try dsimp only at hk
    exact or_iret E F dX11_greatestLength_9 (Nat.le_refl _) (Nat.le_refl _) hk
def M_middleLength (m : Nat) (b : Int32) (I : ow_I) : Int32 × ow_I :=
  lt (M_lacksBarrel m b I) (fun (r1 : Bool × ow_I) => if r1.1 then (nI 0, r1.2) else (M_middleOf m (tn b) r1.2, r1.2))
set_option maxRecDepth 100000 in
set_option maxHeartbeats 400000 in
theorem cM_middleLength {S : Nat → Option ow_Sh} {I : ow_I} {V : Nat → Nat → Value} {z : Nat} {m : Nat} {b : Int32} (h_m : md_S S m) (hv : md_V (I (m + 1))) : ow_Cf yX11_middleLength cX11_middleLength 2 (some .int) 4 [.ref m, .int b] (S, I, V, z) (some (.int ((M_middleLength m b I).1))) (S, (M_middleLength m b I).2, V, z) := by
  refine ow_Cf.of rfl (Nat.le_of_ble_eq_true rfl) (fun X K E F hk => ?_)
  have E : ow_E X RX11 cX11_middleLength 2 (ow_rm 4 0 0) := E
  refine or_lv [(0, .ref m), (1, .int b)] rfl ?_
  dsimp only [M_middleLength] at hk
  refine or_aload_n E rfl dX11_middleLength_0 ?_
  refine or_iload_n E rfl dX11_middleLength_1 ?_
  refine or_cV1r (cM_lacksBarrel  h_m ) E lk_11_308 dX11_middleLength_2 h_m.1 rfl rfl (by decide) (by decide) ⟨Nat.le_refl _, Nat.le_refl _⟩ (Nat.le_of_ble_eq_true rfl) ?_
  obtain ⟨r1, hr1⟩ : ∃ y_ : Bool × ow_I, y_ = M_lacksBarrel m b I := ⟨_, rfl⟩
  replace hk := lt_k (P := fun r : Int32 × ow_I => K (some (.int ((r).1))) (S, (r).2, V, z)) hr1 hk
  refine or_nmZ hr1 ?_
  refine or_if_eqZ 10 E dX11_middleLength_5 rfl (fun q5 => ?_) (fun q5 => ?_)
  · replace hk := ite_n (P := fun r : Int32 × ow_I => K (some (.int ((r).1))) (S, (r).2, V, z)) (bz_neg q5) hk
    refine or_aload_n E rfl dX11_middleLength_10 ?_
    refine or_iload_n E rfl dX11_middleLength_11 ?_
    refine or_top (nI_tn (by subst hr1; exact (lB_1 hv q5).1)).symm ?_
    refine or_cV1r (cM_middleOf  h_m (by subst hr1; exact (lB_e hv q5).2.2.2) (by subst hr1; exact (lB_e hv q5).1) (by subst hr1; exact (lB_e hv q5).2.2.1) (by subst hr1; exact (lB_e hv q5).2.1)) E lk_11_311 dX11_middleLength_12 h_m.1 rfl rfl (by decide) (by decide) ⟨Nat.le_refl _, Nat.le_refl _⟩ (Nat.le_of_ble_eq_true rfl) ?_
    try dsimp only at hk
    exact or_iret E F dX11_middleLength_15 (Nat.le_refl _) (Nat.le_refl _) hk
  · replace hk := ite_p (P := fun r : Int32 × ow_I => K (some (.int ((r).1))) (S, (r).2, V, z)) q5 hk
    refine or_iconst (v := nI 0) E rfl dX11_middleLength_8 ?_
    try dsimp only at hk
    exact or_iret E F dX11_middleLength_9 (Nat.le_refl _) (Nat.le_refl _) hk
def M_length (m : Nat) (b : Int32) (e : Int32) (I : ow_I) : Int32 × ow_I :=
  lt (M_lacksBarrel m b I) (fun (r1 : Bool × ow_I) => if r1.1 then (nI 0, r1.2) else if M_in e (nI 0) (M_ofBarrel m (tn b) 0 r1.2 - (nI 1)) r1.2 then (M_lengthOf m (tn b) (tn e) r1.2, r1.2) else lt (ow_u r1.2 m 18 (nI 1)) (fun (I2 : ow_I) => (nI 0, I2)))
set_option maxRecDepth 100000 in
set_option maxHeartbeats 400000 in
theorem cM_length {S : Nat → Option ow_Sh} {I : ow_I} {V : Nat → Nat → Value} {z : Nat} {m : Nat} {b : Int32} {e : Int32} (h_m : md_S S m) (hv : md_V (I (m + 1))) : ow_Cf yX11_length cX11_length 3 (some .int) 2 [.ref m, .int b, .int e] (S, I, V, z) (some (.int ((M_length m b e I).1))) (S, (M_length m b e I).2, V, z) := by
  refine ow_Cf.of rfl (Nat.le_of_ble_eq_true rfl) (fun X K E F hk => ?_)
  have E : ow_E X RX11 cX11_length 3 (ow_rm 2 0 0) := E
  refine or_lv [(0, .ref m), (1, .int b), (2, .int e)] rfl ?_
  dsimp only [M_length] at hk
  refine or_aload_n E rfl dX11_length_0 ?_
  refine or_iload_n E rfl dX11_length_1 ?_
  refine or_cV1r (cM_lacksBarrel  h_m ) E lk_11_308 dX11_length_2 h_m.1 rfl rfl (by decide) (by decide) ⟨Nat.le_refl _, Nat.le_refl _⟩ (Nat.le_of_ble_eq_true rfl) ?_
  obtain ⟨r1, hr1⟩ : ∃ y_ : Bool × ow_I, y_ = M_lacksBarrel m b I := ⟨_, rfl⟩
  replace hk := lt_k (P := fun r : Int32 × ow_I => K (some (.int ((r).1))) (S, (r).2, V, z)) hr1 hk
  refine or_nmZ hr1 ?_
  refine or_if_neZ 37 E dX11_length_5 rfl (fun q5 => ?_) (fun q5 => ?_)
  · replace hk := ite_p (P := fun r : Int32 × ow_I => K (some (.int ((r).1))) (S, (r).2, V, z)) q5 hk
    refine or_iconst (v := nI 0) E rfl dX11_length_37 ?_
    try dsimp only at hk
    exact or_iret E F dX11_length_38 (Nat.le_refl _) (Nat.le_refl _) hk
  · replace hk := ite_n (P := fun r : Int32 × ow_I => K (some (.int ((r).1))) (S, (r).2, V, z)) (bz_neg q5) hk
    refine or_aload_n E rfl dX11_length_8 ?_
    refine or_iload_n E rfl dX11_length_9 ?_
    refine or_iconst (v := nI 0) E rfl dX11_length_10 ?_
    refine or_aload_n E rfl dX11_length_11 ?_
    refine or_iload_n E rfl dX11_length_12 ?_
    refine or_top (nI_tn (by subst hr1; exact (lB_1 hv q5).1)).symm ?_
    refine or_iconst (v := nI 0) E rfl dX11_length_13 ?_
    refine or_cV2r (cM_ofBarrel  h_m (by subst hr1; have h := (lB_1 hv q5).2; have := hv.2.2.1; omega)) E lk_11_66 dX11_length_14 h_m.1 rfl rfl (by decide) (by decide) ⟨Nat.le_refl _, Nat.le_refl _⟩ (Nat.le_of_ble_eq_true rfl) ?_
    refine or_iconst (v := nI 1) E rfl dX11_length_17 ?_
    refine or_isub E dX11_length_18 ?_
    refine or_cS3r (cM_in   ) E lk_11_173 dX11_length_19 (by decide) (by decide) ⟨Nat.le_refl _, Nat.le_refl _⟩ (Nat.le_of_ble_eq_true rfl) ?_
    refine or_if_neZ 29 E dX11_length_22 rfl (fun q22 => ?_) (fun q22 => ?_)
    · replace hk := ite_p (P := fun r : Int32 × ow_I => K (some (.int ((r).1))) (S, (r).2, V, z)) q22 hk
      refine or_iconst (v := nI 0) E rfl dX11_length_29 ?_
      refine or_iconst (v := nI 1) E rfl dX11_length_30 ?_
      refine or_cV2r (cM_thrF h_m) E lk_11_166 dX11_length_31 h_m.1 rfl rfl (by decide) (by decide) ⟨Nat.le_refl _, Nat.le_refl _⟩ (Nat.le_of_ble_eq_true rfl) ?_
      refine or_if_eqZ 39 E dX11_length_34 rfl (fun q34 => ?_) (fun q34 => absurd q34 (by decide))
      refine or_aload_n E rfl dX11_length_39 ?_
      refine or_iload_n E rfl dX11_length_40 ?_
      refine or_top (nI_tn (by subst hr1; exact (lB_1 hv q5).1)).symm ?_
      refine or_iload_n E rfl dX11_length_41 ?_
      refine or_top (nI_tn (by subst hr1; exact (le_mn (lB_e hv q5).1 (lB_e hv q5).2.1 (by have := (lB_e hv q5).2.2.1; omega) (in_rng q22).1 (in_rng q22).2).1)).symm ?_
      refine or_cV2r (cM_lengthOf  h_m (by subst hr1; have h := (le_mn (lB_e hv q5).1 (lB_e hv q5).2.1 (by have := (lB_e hv q5).2.2.1; omega) (in_rng q22).1 (in_rng q22).2).2; have := (lB_e hv q5); omega)) E lk_11_80 dX11_length_42 h_m.1 rfl rfl (by decide) (by decide) ⟨Nat.le_refl _, Nat.le_refl _⟩ (Nat.le_of_ble_eq_true rfl) ?_
      try dsimp only at hk
      exact or_iret E F dX11_length_45 (Nat.le_refl _) (Nat.le_refl _) hk
    · replace hk := ite_n (P := fun r : Int32 × ow_I => K (some (.int ((r).1))) (S, (r).2, V, z)) (bz_neg q22) hk
      refine or_iconst (v := nI 1) E rfl dX11_length_25 ?_
      refine or_goto 30 E dX11_length_26 rfl ?_
      refine or_iconst (v := nI 1) E rfl dX11_length_30 ?_
      refine or_cV2r (cM_thrT h_m) E lk_11_166 dX11_length_31 h_m.1 rfl rfl (by decide) (by decide) ⟨Nat.le_refl _, Nat.le_refl _⟩ (Nat.le_of_ble_eq_true rfl) ?_
      obtain ⟨I2, hI2⟩ : ∃ y_ : ow_I, y_ = ow_u r1.2 m 18 (nI 1) := ⟨_, rfl⟩
      replace hk := lt_k (P := fun r : Int32 × ow_I => K (some (.int ((r).1))) (S, (r).2, V, z)) hI2 hk
      refine or_nmI hI2 ?_
      refine or_if_eqZ 39 E dX11_length_34 rfl (fun q34 => absurd q34 (by decide)) (fun q34 => ?_)
      refine or_iconst (v := nI 0) E rfl dX11_length_37 ?_
      try dsimp only at hk
      exact or_iret E F dX11_length_38 (Nat.le_refl _) (Nat.le_refl _) hk
def M_pricePerLength (m : Nat) (b : Int32) (I : ow_I) : UInt32 × ow_I :=
  lt (M_lacksBarrel m b I) (fun (r1 : Bool × ow_I) => if r1.1 then (FP.fconst0, r1.2) else if M_ofBarrel m (tn b) 12 r1.2 = nI 2 then (FP.fdiv (FP.i2f (M_ofBarrel m (tn b) 14 r1.2)) (FP.i2f (M_totalOf m (tn b) r1.2)), r1.2) else (FP.fconst0, r1.2))
set_option maxRecDepth 100000 in
set_option maxHeartbeats 400000 in
theorem cM_pricePerLength {S : Nat → Option ow_Sh} {I : ow_I} {V : Nat → Nat → Value} {z : Nat} {m : Nat} {b : Int32} (h_m : md_S S m) (hv : md_V (I (m + 1))) (hT : ∀ k, k < tn (I (m + 1) 7) → ¬ M_totalOf m k I = 0) : ow_Cf yX11_pricePerLength cX11_pricePerLength 2 (some .float) 3 [.ref m, .int b] (S, I, V, z) (some (.float ((M_pricePerLength m b I).1))) (S, (M_pricePerLength m b I).2, V, z) := by
  refine ow_Cf.of rfl (Nat.le_of_ble_eq_true rfl) (fun X K E F hk => ?_)
  have E : ow_E X RX11 cX11_pricePerLength 2 (ow_rm 3 0 0) := E
  refine or_lv [(0, .ref m), (1, .int b)] rfl ?_
  dsimp only [M_pricePerLength] at hk
  refine or_aload_n E rfl dX11_pricePerLength_0 ?_
  refine or_iload_n E rfl dX11_pricePerLength_1 ?_
  refine or_cV1r (cM_lacksBarrel  h_m ) E lk_11_308 dX11_pricePerLength_2 h_m.1 rfl rfl (by decide) (by decide) ⟨Nat.le_refl _, Nat.le_refl _⟩ (Nat.le_of_ble_eq_true rfl) ?_
  obtain ⟨r1, hr1⟩ : ∃ y_ : Bool × ow_I, y_ = M_lacksBarrel m b I := ⟨_, rfl⟩
  replace hk := lt_k (P := fun r : UInt32 × ow_I => K (some (.float ((r).1))) (S, (r).2, V, z)) hr1 hk
  refine or_nmZ hr1 ?_
  refine or_if_eqZ 10 E dX11_pricePerLength_5 rfl (fun q5 => ?_) (fun q5 => ?_)
  · replace hk := ite_n (P := fun r : UInt32 × ow_I => K (some (.float ((r).1))) (S, (r).2, V, z)) (bz_neg q5) hk
    refine or_aload_n E rfl dX11_pricePerLength_10 ?_
    refine or_iload_n E rfl dX11_pricePerLength_11 ?_
    refine or_top (nI_tn (by subst hr1; exact (lB_1 hv q5).1)).symm ?_
    refine or_bipush (v := nI 12) E rfl dX11_pricePerLength_12 ?_
    refine or_cV2r (cM_ofBarrel  h_m (by subst hr1; have h := (lB_1 hv q5).2; have := hv.2.2.1; omega)) E lk_11_66 dX11_pricePerLength_14 h_m.1 rfl rfl (by decide) (by decide) ⟨Nat.le_refl _, Nat.le_refl _⟩ (Nat.le_of_ble_eq_true rfl) ?_
    refine or_iconst (v := nI 2) E rfl dX11_pricePerLength_17 ?_
    refine or_icmp_eq 23 E dX11_pricePerLength_18 rfl (fun q18 => ?_) (fun q18 => ?_)
    · replace hk := ite_p (P := fun r : UInt32 × ow_I => K (some (.float ((r).1))) (S, (r).2, V, z)) q18 hk
      refine or_aload_n E rfl dX11_pricePerLength_23 ?_
      refine or_iload_n E rfl dX11_pricePerLength_24 ?_
      refine or_top (nI_tn (by subst hr1; exact (lB_1 hv q5).1)).symm ?_
      refine or_bipush (v := nI 14) E rfl dX11_pricePerLength_25 ?_
      refine or_cV2r (cM_ofBarrel  h_m (by subst hr1; have h := (lB_1 hv q5).2; have := hv.2.2.1; omega)) E lk_11_66 dX11_pricePerLength_27 h_m.1 rfl rfl (by decide) (by decide) ⟨Nat.le_refl _, Nat.le_refl _⟩ (Nat.le_of_ble_eq_true rfl) ?_
      refine or_i2f E dX11_pricePerLength_30 ?_
      refine or_aload_n E rfl dX11_pricePerLength_31 ?_
      refine or_iload_n E rfl dX11_pricePerLength_32 ?_
      refine or_top (nI_tn (by subst hr1; exact (lB_1 hv q5).1)).symm ?_
      refine or_cV1r (cM_totalOf  h_m (by subst hr1; exact (lB_e hv q5).2.2.2) (by subst hr1; exact (lB_e hv q5).1) (by subst hr1; exact (lB_e hv q5).2.2.1)) E lk_11_89 dX11_pricePerLength_33 h_m.1 rfl rfl (by decide) (by decide) ⟨Nat.le_refl _, Nat.le_refl _⟩ (Nat.le_of_ble_eq_true rfl) ?_
      refine or_i2f E dX11_pricePerLength_36 ?_
      refine or_fdiv E (by subst hr1; exact (fp_ff (by rw [tot_row lB_A]; exact hT _ (lB_1 hv q5).2))) dX11_pricePerLength_37 ?_
      try dsimp only at hk
      exact or_fret E F dX11_pricePerLength_38 (Nat.le_refl _) (Nat.le_refl _) hk
    · replace hk := ite_n (P := fun r : UInt32 × ow_I => K (some (.float ((r).1))) (S, (r).2, V, z)) q18 hk
      refine or_fconst0 E dX11_pricePerLength_21 ?_
      try dsimp only at hk
      exact or_fret E F dX11_pricePerLength_22 (Nat.le_refl _) (Nat.le_refl _) hk
  · replace hk := ite_p (P := fun r : UInt32 × ow_I => K (some (.float ((r).1))) (S, (r).2, V, z)) q5 hk
    refine or_fconst0 E dX11_pricePerLength_8 ?_
    try dsimp only at hk
    exact or_fret E F dX11_pricePerLength_9 (Nat.le_refl _) (Nat.le_refl _) hk
def M_purse (m : Nat) (b : Int32) (I : ow_I) : Int32 × ow_I :=
  lt (M_lacksBuyer m b I) (fun (r1 : Bool × ow_I) => if r1.1 then (nI 0, r1.2) else (M_of m (tn b) 0 r1.2, r1.2))
set_option maxRecDepth 100000 in
set_option maxHeartbeats 400000 in
theorem cM_purse {S : Nat → Option ow_Sh} {I : ow_I} {V : Nat → Nat → Value} {z : Nat} {m : Nat} {b : Int32} (h_m : md_S S m) (hv : md_V (I (m + 1))) : ow_Cf yX11_purse cX11_purse 2 (some .int) 2 [.ref m, .int b] (S, I, V, z) (some (.int ((M_purse m b I).1))) (S, (M_purse m b I).2, V, z) := by
  refine ow_Cf.of rfl (Nat.le_of_ble_eq_true rfl) (fun X K E F hk => ?_)
  have E : ow_E X RX11 cX11_purse 2 (ow_rm 2 0 0) := E
  refine or_lv [(0, .ref m), (1, .int b)] rfl ?_
  dsimp only [M_purse] at hk
  refine or_aload_n E rfl dX11_purse_0 ?_
  refine or_iload_n E rfl dX11_purse_1 ?_
  refine or_cV1r (cM_lacksBuyer  h_m ) E lk_11_305 dX11_purse_2 h_m.1 rfl rfl (by decide) (by decide) ⟨Nat.le_refl _, Nat.le_refl _⟩ (Nat.le_of_ble_eq_true rfl) ?_
  obtain ⟨r1, hr1⟩ : ∃ y_ : Bool × ow_I, y_ = M_lacksBuyer m b I := ⟨_, rfl⟩
  replace hk := lt_k (P := fun r : Int32 × ow_I => K (some (.int ((r).1))) (S, (r).2, V, z)) hr1 hk
  refine or_nmZ hr1 ?_
  refine or_if_eqZ 10 E dX11_purse_5 rfl (fun q5 => ?_) (fun q5 => ?_)
  · replace hk := ite_n (P := fun r : Int32 × ow_I => K (some (.int ((r).1))) (S, (r).2, V, z)) (bz_neg q5) hk
    refine or_aload_n E rfl dX11_purse_10 ?_
    refine or_iload_n E rfl dX11_purse_11 ?_
    refine or_top (nI_tn (by subst hr1; exact (lb_1 hv q5).1)).symm ?_
    refine or_iconst (v := nI 0) E rfl dX11_purse_12 ?_
    refine or_cV2r (cM_of  h_m (by subst hr1; have h := (lb_1 hv q5).2; have := hv.2.1; omega)) E lk_11_86 dX11_purse_13 h_m.1 rfl rfl (by decide) (by decide) ⟨Nat.le_refl _, Nat.le_refl _⟩ (Nat.le_of_ble_eq_true rfl) ?_
    try dsimp only at hk
    exact or_iret E F dX11_purse_16 (Nat.le_refl _) (Nat.le_refl _) hk
  · replace hk := ite_p (P := fun r : Int32 × ow_I => K (some (.int ((r).1))) (S, (r).2, V, z)) q5 hk
    refine or_iconst (v := nI 0) E rfl dX11_purse_8 ?_
    try dsimp only at hk
    exact or_iret E F dX11_purse_9 (Nat.le_refl _) (Nat.le_refl _) hk
def M_style (m : Nat) (b : Int32) (I : ow_I) : Int32 × ow_I :=
  lt (M_lacksBuyer m b I) (fun (r1 : Bool × ow_I) => if r1.1 then (nI 0, r1.2) else (M_of m (tn b) 1 r1.2, r1.2))
set_option maxRecDepth 100000 in
set_option maxHeartbeats 400000 in
theorem cM_style {S : Nat → Option ow_Sh} {I : ow_I} {V : Nat → Nat → Value} {z : Nat} {m : Nat} {b : Int32} (h_m : md_S S m) (hv : md_V (I (m + 1))) : ow_Cf yX11_style cX11_style 2 (some .int) 2 [.ref m, .int b] (S, I, V, z) (some (.int ((M_style m b I).1))) (S, (M_style m b I).2, V, z) := by
  refine ow_Cf.of rfl (Nat.le_of_ble_eq_true rfl) (fun X K E F hk => ?_)
  have E : ow_E X RX11 cX11_style 2 (ow_rm 2 0 0) := E
  refine or_lv [(0, .ref m), (1, .int b)] rfl ?_
  dsimp only [M_style] at hk
  refine or_aload_n E rfl dX11_style_0 ?_
  refine or_iload_n E rfl dX11_style_1 ?_
  refine or_cV1r (cM_lacksBuyer  h_m ) E lk_11_305 dX11_style_2 h_m.1 rfl rfl (by decide) (by decide) ⟨Nat.le_refl _, Nat.le_refl _⟩ (Nat.le_of_ble_eq_true rfl) ?_
  obtain ⟨r1, hr1⟩ : ∃ y_ : Bool × ow_I, y_ = M_lacksBuyer m b I := ⟨_, rfl⟩
  replace hk := lt_k (P := fun r : Int32 × ow_I => K (some (.int ((r).1))) (S, (r).2, V, z)) hr1 hk
  refine or_nmZ hr1 ?_
  refine or_if_eqZ 10 E dX11_style_5 rfl (fun q5 => ?_) (fun q5 => ?_)
  · replace hk := ite_n (P := fun r : Int32 × ow_I => K (some (.int ((r).1))) (S, (r).2, V, z)) (bz_neg q5) hk
    refine or_aload_n E rfl dX11_style_10 ?_
    refine or_iload_n E rfl dX11_style_11 ?_
    refine or_top (nI_tn (by subst hr1; exact (lb_1 hv q5).1)).symm ?_
    refine or_iconst (v := nI 1) E rfl dX11_style_12 ?_
    refine or_cV2r (cM_of  h_m (by subst hr1; have h := (lb_1 hv q5).2; have := hv.2.1; omega)) E lk_11_86 dX11_style_13 h_m.1 rfl rfl (by decide) (by decide) ⟨Nat.le_refl _, Nat.le_refl _⟩ (Nat.le_of_ble_eq_true rfl) ?_
    try dsimp only at hk
    exact or_iret E F dX11_style_16 (Nat.le_refl _) (Nat.le_refl _) hk
  · replace hk := ite_p (P := fun r : Int32 × ow_I => K (some (.int ((r).1))) (S, (r).2, V, z)) q5 hk
    refine or_iconst (v := nI 0) E rfl dX11_style_8 ?_
    try dsimp only at hk
    exact or_iret E F dX11_style_9 (Nat.le_refl _) (Nat.le_refl _) hk
def M_factor (m : Nat) (b : Int32) (I : ow_I) : Int32 × ow_I :=
  lt (M_lacksBuyer m b I) (fun (r1 : Bool × ow_I) => if r1.1 then (nI 0, r1.2) else (M_of m (tn b) 2 r1.2, r1.2))
set_option maxRecDepth 100000 in
set_option maxHeartbeats 400000 in
theorem cM_factor {S : Nat → Option ow_Sh} {I : ow_I} {V : Nat → Nat → Value} {z : Nat} {m : Nat} {b : Int32} (h_m : md_S S m) (hv : md_V (I (m + 1))) : ow_Cf yX11_factor cX11_factor 2 (some .int) 2 [.ref m, .int b] (S, I, V, z) (some (.int ((M_factor m b I).1))) (S, (M_factor m b I).2, V, z) := by
  refine ow_Cf.of rfl (Nat.le_of_ble_eq_true rfl) (fun X K E F hk => ?_)
  have E : ow_E X RX11 cX11_factor 2 (ow_rm 2 0 0) := E
  refine or_lv [(0, .ref m), (1, .int b)] rfl ?_
  dsimp only [M_factor] at hk
  refine or_aload_n E rfl dX11_factor_0 ?_
  refine or_iload_n E rfl dX11_factor_1 ?_
  refine or_cV1r (cM_lacksBuyer  h_m ) E lk_11_305 dX11_factor_2 h_m.1 rfl rfl (by decide) (by decide) ⟨Nat.le_refl _, Nat.le_refl _⟩ (Nat.le_of_ble_eq_true rfl) ?_
  obtain ⟨r1, hr1⟩ : ∃ y_ : Bool × ow_I, y_ = M_lacksBuyer m b I := ⟨_, rfl⟩
  replace hk := lt_k (P := fun r : Int32 × ow_I => K (some (.int ((r).1))) (S, (r).2, V, z)) hr1 hk
  refine or_nmZ hr1 ?_
  refine or_if_eqZ 10 E dX11_factor_5 rfl (fun q5 => ?_) (fun q5 => ?_)
  · replace hk := ite_n (P := fun r : Int32 × ow_I => K (some (.int ((r).1))) (S, (r).2, V, z)) (bz_neg q5) hk
    refine or_aload_n E rfl dX11_factor_10 ?_
    refine or_iload_n E rfl dX11_factor_11 ?_
    refine or_top (nI_tn (by subst hr1; exact (lb_1 hv q5).1)).symm ?_
    refine or_iconst (v := nI 2) E rfl dX11_factor_12 ?_
    refine or_cV2r (cM_of  h_m (by subst hr1; have h := (lb_1 hv q5).2; have := hv.2.1; omega)) E lk_11_86 dX11_factor_13 h_m.1 rfl rfl (by decide) (by decide) ⟨Nat.le_refl _, Nat.le_refl _⟩ (Nat.le_of_ble_eq_true rfl) ?_
    try dsimp only at hk
    exact or_iret E F dX11_factor_16 (Nat.le_refl _) (Nat.le_refl _) hk
  · replace hk := ite_p (P := fun r : Int32 × ow_I => K (some (.int ((r).1))) (S, (r).2, V, z)) q5 hk
    refine or_iconst (v := nI 0) E rfl dX11_factor_8 ?_
    try dsimp only at hk
    exact or_iret E F dX11_factor_9 (Nat.le_refl _) (Nat.le_refl _) hk
def M_bought (m : Nat) (b : Int32) (I : ow_I) : Int32 × ow_I :=
  lt (M_lacksBuyer m b I) (fun (r1 : Bool × ow_I) => if r1.1 then (nI 0, r1.2) else (M_of m (tn b) 3 r1.2, r1.2))
set_option maxRecDepth 100000 in
set_option maxHeartbeats 400000 in
theorem cM_bought {S : Nat → Option ow_Sh} {I : ow_I} {V : Nat → Nat → Value} {z : Nat} {m : Nat} {b : Int32} (h_m : md_S S m) (hv : md_V (I (m + 1))) : ow_Cf yX11_bought cX11_bought 2 (some .int) 2 [.ref m, .int b] (S, I, V, z) (some (.int ((M_bought m b I).1))) (S, (M_bought m b I).2, V, z) := by
  refine ow_Cf.of rfl (Nat.le_of_ble_eq_true rfl) (fun X K E F hk => ?_)
  have E : ow_E X RX11 cX11_bought 2 (ow_rm 2 0 0) := E
  refine or_lv [(0, .ref m), (1, .int b)] rfl ?_
  dsimp only [M_bought] at hk
  refine or_aload_n E rfl dX11_bought_0 ?_
  refine or_iload_n E rfl dX11_bought_1 ?_
  refine or_cV1r (cM_lacksBuyer  h_m ) E lk_11_305 dX11_bought_2 h_m.1 rfl rfl (by decide) (by decide) ⟨Nat.le_refl _, Nat.le_refl _⟩ (Nat.le_of_ble_eq_true rfl) ?_
  obtain ⟨r1, hr1⟩ : ∃ y_ : Bool × ow_I, y_ = M_lacksBuyer m b I := ⟨_, rfl⟩
  replace hk := lt_k (P := fun r : Int32 × ow_I => K (some (.int ((r).1))) (S, (r).2, V, z)) hr1 hk
  refine or_nmZ hr1 ?_
  refine or_if_eqZ 10 E dX11_bought_5 rfl (fun q5 => ?_) (fun q5 => ?_)
  · replace hk := ite_n (P := fun r : Int32 × ow_I => K (some (.int ((r).1))) (S, (r).2, V, z)) (bz_neg q5) hk
    refine or_aload_n E rfl dX11_bought_10 ?_
    refine or_iload_n E rfl dX11_bought_11 ?_
    refine or_top (nI_tn (by subst hr1; exact (lb_1 hv q5).1)).symm ?_
    refine or_iconst (v := nI 3) E rfl dX11_bought_12 ?_
    refine or_cV2r (cM_of  h_m (by subst hr1; have h := (lb_1 hv q5).2; have := hv.2.1; omega)) E lk_11_86 dX11_bought_13 h_m.1 rfl rfl (by decide) (by decide) ⟨Nat.le_refl _, Nat.le_refl _⟩ (Nat.le_of_ble_eq_true rfl) ?_
    try dsimp only at hk
    exact or_iret E F dX11_bought_16 (Nat.le_refl _) (Nat.le_refl _) hk
  · replace hk := ite_p (P := fun r : Int32 × ow_I => K (some (.int ((r).1))) (S, (r).2, V, z)) q5 hk
    refine or_iconst (v := nI 0) E rfl dX11_bought_8 ?_
    try dsimp only at hk
    exact or_iret E F dX11_bought_9 (Nat.le_refl _) (Nat.le_refl _) hk
def M_nods (m : Nat) (b : Int32) (I : ow_I) : Int32 × ow_I :=
  lt (M_lacksBuyer m b I) (fun (r1 : Bool × ow_I) => if r1.1 then (nI 0, r1.2) else (M_of m (tn b) 4 r1.2, r1.2))
set_option maxRecDepth 100000 in
set_option maxHeartbeats 400000 in
theorem cM_nods {S : Nat → Option ow_Sh} {I : ow_I} {V : Nat → Nat → Value} {z : Nat} {m : Nat} {b : Int32} (h_m : md_S S m) (hv : md_V (I (m + 1))) : ow_Cf yX11_nods cX11_nods 2 (some .int) 2 [.ref m, .int b] (S, I, V, z) (some (.int ((M_nods m b I).1))) (S, (M_nods m b I).2, V, z) := by
  refine ow_Cf.of rfl (Nat.le_of_ble_eq_true rfl) (fun X K E F hk => ?_)
  have E : ow_E X RX11 cX11_nods 2 (ow_rm 2 0 0) := E
  refine or_lv [(0, .ref m), (1, .int b)] rfl ?_
  dsimp only [M_nods] at hk
  refine or_aload_n E rfl dX11_nods_0 ?_
  refine or_iload_n E rfl dX11_nods_1 ?_
  refine or_cV1r (cM_lacksBuyer  h_m ) E lk_11_305 dX11_nods_2 h_m.1 rfl rfl (by decide) (by decide) ⟨Nat.le_refl _, Nat.le_refl _⟩ (Nat.le_of_ble_eq_true rfl) ?_
  obtain ⟨r1, hr1⟩ : ∃ y_ : Bool × ow_I, y_ = M_lacksBuyer m b I := ⟨_, rfl⟩
  replace hk := lt_k (P := fun r : Int32 × ow_I => K (some (.int ((r).1))) (S, (r).2, V, z)) hr1 hk
  refine or_nmZ hr1 ?_
  refine or_if_eqZ 10 E dX11_nods_5 rfl (fun q5 => ?_) (fun q5 => ?_)
  · replace hk := ite_n (P := fun r : Int32 × ow_I => K (some (.int ((r).1))) (S, (r).2, V, z)) (bz_neg q5) hk
    refine or_aload_n E rfl dX11_nods_10 ?_
    refine or_iload_n E rfl dX11_nods_11 ?_
    refine or_top (nI_tn (by subst hr1; exact (lb_1 hv q5).1)).symm ?_
    refine or_iconst (v := nI 4) E rfl dX11_nods_12 ?_
    refine or_cV2r (cM_of  h_m (by subst hr1; have h := (lb_1 hv q5).2; have := hv.2.1; omega)) E lk_11_86 dX11_nods_13 h_m.1 rfl rfl (by decide) (by decide) ⟨Nat.le_refl _, Nat.le_refl _⟩ (Nat.le_of_ble_eq_true rfl) ?_
    try dsimp only at hk
    exact or_iret E F dX11_nods_16 (Nat.le_refl _) (Nat.le_refl _) hk
  · replace hk := ite_p (P := fun r : Int32 × ow_I => K (some (.int ((r).1))) (S, (r).2, V, z)) q5 hk
    refine or_iconst (v := nI 0) E rfl dX11_nods_8 ?_
    try dsimp only at hk
    exact or_iret E F dX11_nods_9 (Nat.le_refl _) (Nat.le_refl _) hk
def M_worth (m : Nat) (b : Int32) (k : Int32) (I : ow_I) : UInt64 × ow_I :=
  lt (M_lacksBuyer m b I) (fun (r1 : Bool × ow_I) => if r1.1 then (FP.dconst0, r1.2) else lt (M_lacksBarrel m k r1.2) (fun (r2 : Bool × ow_I) => if r2.1 then (FP.dconst0, r2.2) else (M_worthTo m (tn b) (tn k) r2.2, r2.2)))
set_option maxRecDepth 100000 in
set_option maxHeartbeats 400000 in
theorem cM_worth {S : Nat → Option ow_Sh} {I : ow_I} {V : Nat → Nat → Value} {z : Nat} {m : Nat} {b : Int32} {k : Int32} (h_m : md_S S m) (hv : md_V (I (m + 1))) : ow_Cf yX11_worth cX11_worth 3 (some .double) 4 [.ref m, .int b, .int k] (S, I, V, z) (some (.double ((M_worth m b k I).1))) (S, (M_worth m b k I).2, V, z) := by
  refine ow_Cf.of rfl (Nat.le_of_ble_eq_true rfl) (fun X K E F hk => ?_)
  have E : ow_E X RX11 cX11_worth 3 (ow_rm 4 0 0) := E
  refine or_lv [(0, .ref m), (1, .int b), (2, .int k)] rfl ?_
  dsimp only [M_worth] at hk
  refine or_aload_n E rfl dX11_worth_0 ?_
  refine or_iload_n E rfl dX11_worth_1 ?_
  refine or_cV1r (cM_lacksBuyer  h_m ) E lk_11_305 dX11_worth_2 h_m.1 rfl rfl (by decide) (by decide) ⟨Nat.le_refl _, Nat.le_refl _⟩ (Nat.le_of_ble_eq_true rfl) ?_
  obtain ⟨r1, hr1⟩ : ∃ y_ : Bool × ow_I, y_ = M_lacksBuyer m b I := ⟨_, rfl⟩
  replace hk := lt_k (P := fun r : UInt64 × ow_I => K (some (.double ((r).1))) (S, (r).2, V, z)) hr1 hk
  refine or_nmZ hr1 ?_
  refine or_if_neZ 16 E dX11_worth_5 rfl (fun q5 => ?_) (fun q5 => ?_)
  · replace hk := ite_p (P := fun r : UInt64 × ow_I => K (some (.double ((r).1))) (S, (r).2, V, z)) q5 hk
    refine or_dconst0 E dX11_worth_16 ?_
    try dsimp only at hk
    exact or_dret E F dX11_worth_17 (Nat.le_refl _) (Nat.le_refl _) hk
  · replace hk := ite_n (P := fun r : UInt64 × ow_I => K (some (.double ((r).1))) (S, (r).2, V, z)) (bz_neg q5) hk
    refine or_aload_n E rfl dX11_worth_8 ?_
    refine or_iload_n E rfl dX11_worth_9 ?_
    refine or_cV1r (cM_lacksBarrel  h_m ) E lk_11_308 dX11_worth_10 h_m.1 rfl rfl (by decide) (by decide) ⟨Nat.le_refl _, Nat.le_refl _⟩ (Nat.le_of_ble_eq_true rfl) ?_
    obtain ⟨r2, hr2⟩ : ∃ y_ : Bool × ow_I, y_ = M_lacksBarrel m k r1.2 := ⟨_, rfl⟩
    replace hk := lt_k (P := fun r : UInt64 × ow_I => K (some (.double ((r).1))) (S, (r).2, V, z)) hr2 hk
    refine or_nmZ hr2 ?_
    refine or_if_eqZ 18 E dX11_worth_13 rfl (fun q13 => ?_) (fun q13 => ?_)
    · replace hk := ite_n (P := fun r : UInt64 × ow_I => K (some (.double ((r).1))) (S, (r).2, V, z)) (bz_neg q13) hk
      refine or_aload_n E rfl dX11_worth_18 ?_
      refine or_iload_n E rfl dX11_worth_19 ?_
      refine or_top (nI_tn (by subst hr2 hr1; exact (lb_1 hv q5).1)).symm ?_
      refine or_iload_n E rfl dX11_worth_20 ?_
      refine or_top (nI_tn (by subst hr2 hr1; exact (lB_1 (show md_V ((M_lacksBuyer m b I).2 (m + 1)) by rw [lb_A]; exact hv) q13).1)).symm ?_
      refine or_cV2r (cM_worthTo  h_m (by subst hr2 hr1; have h := (lb_1 hv q5).2; have := hv.2.1; omega) (by subst hr2 hr1; exact (lB_e (show md_V ((M_lacksBuyer m b I).2 (m + 1)) by rw [lb_A]; exact hv) q13).2.2.2) (by subst hr2 hr1; exact (lB_e (show md_V ((M_lacksBuyer m b I).2 (m + 1)) by rw [lb_A]; exact hv) q13).1) (by subst hr2 hr1; exact (lB_e (show md_V ((M_lacksBuyer m b I).2 (m + 1)) by rw [lb_A]; exact hv) q13).2.2.1)) E lk_11_119 dX11_worth_21 h_m.1 rfl rfl (by decide) (by decide) ⟨Nat.le_refl _, Nat.le_refl _⟩ (Nat.le_of_ble_eq_true rfl) ?_
      try dsimp only at hk
      exact or_dret E F dX11_worth_24 (Nat.le_refl _) (Nat.le_refl _) hk
    · replace hk := ite_p (P := fun r : UInt64 × ow_I => K (some (.double ((r).1))) (S, (r).2, V, z)) q13 hk
      refine or_dconst0 E dX11_worth_16 ?_
      try dsimp only at hk
      exact or_dret E F dX11_worth_17 (Nat.le_refl _) (Nat.le_refl _) hk
def M_endTrial (m : Nat) (x : Int32) (I : ow_I) : Int32 × ow_I :=
  lt (M_copyBlock m 12 0 I) (fun (I1 : ow_I) => (x, I1))
set_option maxRecDepth 100000 in
set_option maxHeartbeats 400000 in
theorem cM_endTrial {S : Nat → Option ow_Sh} {I : ow_I} {V : Nat → Nat → Value} {z : Nat} {m : Nat} {x : Int32} (h_m : md_S S m)  : ow_Cf yX11_endTrial cX11_endTrial 2 (some .int) 1 [.ref m, .int x] (S, I, V, z) (some (.int ((M_endTrial m x I).1))) (S, (M_endTrial m x I).2, V, z) := by
  refine ow_Cf.of rfl (Nat.le_of_ble_eq_true rfl) (fun X K E F hk => ?_)
  have E : ow_E X RX11 cX11_endTrial 2 (ow_rm 1 0 0) := E
  refine or_lv [(0, .ref m), (1, .int x)] rfl ?_
  dsimp only [M_endTrial] at hk
  refine or_aload_n E rfl dX11_endTrial_0 ?_
  refine or_bipush (v := nI 12) E rfl dX11_endTrial_1 ?_
  refine or_iconst (v := nI 0) E rfl dX11_endTrial_3 ?_
  refine or_cV2v (cM_copyBlock  h_m (by decide) (by decide)) E lk_11_63 dX11_endTrial_4 h_m.1 rfl rfl (by decide) (by decide) ⟨Nat.le_refl _, Nat.le_refl _⟩ (Nat.le_of_ble_eq_true rfl) ?_
  obtain ⟨I1, hI1⟩ : ∃ y_ : ow_I, y_ = M_copyBlock m 12 0 I := ⟨_, rfl⟩
  replace hk := lt_k (P := fun r : Int32 × ow_I => K (some (.int ((r).1))) (S, (r).2, V, z)) hI1 hk
  refine or_nmI hI1 ?_
  refine or_iload_n E rfl dX11_endTrial_7 ?_
  try dsimp only at hk
  exact or_iret E F dX11_endTrial_8 (Nat.le_refl _) (Nat.le_refl _) hk
def M_whyNotNod (m : Nat) (b : Int32) (I : ow_I) : Int32 × ow_I :=
  lt (M_lacksBuyer m b I) (fun (r1 : Bool × ow_I) => if r1.1 then (nI 0, r1.2) else (M_reasonAgainst m (tn b) r1.2, r1.2))
set_option maxRecDepth 100000 in
set_option maxHeartbeats 400000 in
theorem cM_whyNotNod {S : Nat → Option ow_Sh} {I : ow_I} {V : Nat → Nat → Value} {z : Nat} {m : Nat} {b : Int32} (h_m : md_S S m) (hv : md_V (I (m + 1))) : ow_Cf yX11_whyNotNod cX11_whyNotNod 2 (some .int) 3 [.ref m, .int b] (S, I, V, z) (some (.int ((M_whyNotNod m b I).1))) (S, (M_whyNotNod m b I).2, V, z) := by
  refine ow_Cf.of rfl (Nat.le_of_ble_eq_true rfl) (fun X K E F hk => ?_)
  have E : ow_E X RX11 cX11_whyNotNod 2 (ow_rm 3 0 0) := E
  refine or_lv [(0, .ref m), (1, .int b)] rfl ?_
  dsimp only [M_whyNotNod] at hk
  refine or_aload_n E rfl dX11_whyNotNod_0 ?_
  refine or_iload_n E rfl dX11_whyNotNod_1 ?_
  refine or_cV1r (cM_lacksBuyer  h_m ) E lk_11_305 dX11_whyNotNod_2 h_m.1 rfl rfl (by decide) (by decide) ⟨Nat.le_refl _, Nat.le_refl _⟩ (Nat.le_of_ble_eq_true rfl) ?_
  obtain ⟨r1, hr1⟩ : ∃ y_ : Bool × ow_I, y_ = M_lacksBuyer m b I := ⟨_, rfl⟩
  replace hk := lt_k (P := fun r : Int32 × ow_I => K (some (.int ((r).1))) (S, (r).2, V, z)) hr1 hk
  refine or_nmZ hr1 ?_
  refine or_if_eqZ 10 E dX11_whyNotNod_5 rfl (fun q5 => ?_) (fun q5 => ?_)
  · replace hk := ite_n (P := fun r : Int32 × ow_I => K (some (.int ((r).1))) (S, (r).2, V, z)) (bz_neg q5) hk
    refine or_aload_n E rfl dX11_whyNotNod_10 ?_
    refine or_iload_n E rfl dX11_whyNotNod_11 ?_
    refine or_top (nI_tn (by subst hr1; exact (lb_1 hv q5).1)).symm ?_
    refine or_cV1r (cM_reasonAgainst  h_m (by subst hr1; have h := (lb_1 hv q5).2; have := hv.2.1; omega) (by subst hr1; rw [lb_A]; exact hv.1) (by subst hr1; rw [lb_A]; exact mdV_8' hv)) E lk_11_116 dX11_whyNotNod_12 h_m.1 rfl rfl (by decide) (by decide) ⟨Nat.le_refl _, Nat.le_refl _⟩ (Nat.le_of_ble_eq_true rfl) ?_
    try dsimp only at hk
    exact or_iret E F dX11_whyNotNod_15 (Nat.le_refl _) (Nat.le_refl _) hk
  · replace hk := ite_p (P := fun r : Int32 × ow_I => K (some (.int ((r).1))) (S, (r).2, V, z)) q5 hk
    refine or_iconst (v := nI 0) E rfl dX11_whyNotNod_8 ?_
    try dsimp only at hk
    exact or_iret E F dX11_whyNotNod_9 (Nat.le_refl _) (Nat.le_refl _) hk
def M_costOf (m : Nat) (p : Int32) (I : ow_I) : Int32 × ow_I :=
  lt (ow_u I m 18 (nI 0)) (fun (I1 : ow_I) => if M_in p (nI 0) (nI 9999) I1 then (M_costOfPrice m p I1, I1) else lt (ow_u I1 m 18 (nI 1)) (fun (I2 : ow_I) => (nI 0, I2)))
set_option maxRecDepth 100000 in
set_option maxHeartbeats 400000 in
theorem cM_costOf {S : Nat → Option ow_Sh} {I : ow_I} {V : Nat → Nat → Value} {z : Nat} {m : Nat} {p : Int32} (h_m : md_S S m)  : ow_Cf yX11_costOf cX11_costOf 2 (some .int) 1 [.ref m, .int p] (S, I, V, z) (some (.int ((M_costOf m p I).1))) (S, (M_costOf m p I).2, V, z) := by
  refine ow_Cf.of rfl (Nat.le_of_ble_eq_true rfl) (fun X K E F hk => ?_)
  have E : ow_E X RX11 cX11_costOf 2 (ow_rm 1 0 0) := E
  refine or_lv [(0, .ref m), (1, .int p)] rfl ?_
  dsimp only [M_costOf] at hk
  refine or_aload_n E rfl dX11_costOf_0 ?_
  refine or_iconst (v := nI 0) E rfl dX11_costOf_1 ?_
  refine ot_putI E fl_11_54 fw_11_18 dX11_costOf_2 h_m.1 rfl ?_
  obtain ⟨I1, hI1⟩ : ∃ y_ : ow_I, y_ = ow_u I m 18 (nI 0) := ⟨_, rfl⟩
  replace hk := lt_k (P := fun r : Int32 × ow_I => K (some (.int ((r).1))) (S, (r).2, V, z)) hI1 hk
  refine or_nmI hI1 ?_
  refine or_aload_n E rfl dX11_costOf_5 ?_
  refine or_iload_n E rfl dX11_costOf_6 ?_
  refine or_iconst (v := nI 0) E rfl dX11_costOf_7 ?_
  refine or_sipush (v := nI 9999) E rfl dX11_costOf_8 ?_
  refine or_cS3r (cM_in   ) E lk_11_173 dX11_costOf_11 (by decide) (by decide) ⟨Nat.le_refl _, Nat.le_refl _⟩ (Nat.le_of_ble_eq_true rfl) ?_
  refine or_if_neZ 21 E dX11_costOf_14 rfl (fun q14 => ?_) (fun q14 => ?_)
  · replace hk := ite_p (P := fun r : Int32 × ow_I => K (some (.int ((r).1))) (S, (r).2, V, z)) q14 hk
    refine or_iconst (v := nI 0) E rfl dX11_costOf_21 ?_
    refine or_iconst (v := nI 1) E rfl dX11_costOf_22 ?_
    refine or_cV2r (cM_thrF h_m) E lk_11_166 dX11_costOf_23 h_m.1 rfl rfl (by decide) (by decide) ⟨Nat.le_refl _, Nat.le_refl _⟩ (Nat.le_of_ble_eq_true rfl) ?_
    refine or_if_eqZ 31 E dX11_costOf_26 rfl (fun q26 => ?_) (fun q26 => absurd q26 (by decide))
    refine or_aload_n E rfl dX11_costOf_31 ?_
    refine or_iload_n E rfl dX11_costOf_32 ?_
    refine or_cV1r (cM_costOfPrice  h_m ) E lk_11_113 dX11_costOf_33 h_m.1 rfl rfl (by decide) (by decide) ⟨Nat.le_refl _, Nat.le_refl _⟩ (Nat.le_of_ble_eq_true rfl) ?_
    try dsimp only at hk
    exact or_iret E F dX11_costOf_36 (Nat.le_refl _) (Nat.le_refl _) hk
  · replace hk := ite_n (P := fun r : Int32 × ow_I => K (some (.int ((r).1))) (S, (r).2, V, z)) (bz_neg q14) hk
    refine or_iconst (v := nI 1) E rfl dX11_costOf_17 ?_
    refine or_goto 22 E dX11_costOf_18 rfl ?_
    refine or_iconst (v := nI 1) E rfl dX11_costOf_22 ?_
    refine or_cV2r (cM_thrT h_m) E lk_11_166 dX11_costOf_23 h_m.1 rfl rfl (by decide) (by decide) ⟨Nat.le_refl _, Nat.le_refl _⟩ (Nat.le_of_ble_eq_true rfl) ?_
    obtain ⟨I2, hI2⟩ : ∃ y_ : ow_I, y_ = ow_u I1 m 18 (nI 1) := ⟨_, rfl⟩
    replace hk := lt_k (P := fun r : Int32 × ow_I => K (some (.int ((r).1))) (S, (r).2, V, z)) hI2 hk
    refine or_nmI hI2 ?_
    refine or_if_eqZ 31 E dX11_costOf_26 rfl (fun q26 => absurd q26 (by decide)) (fun q26 => ?_)
    refine or_iconst (v := nI 0) E rfl dX11_costOf_29 ?_
    try dsimp only at hk
    exact or_iret E F dX11_costOf_30 (Nat.le_refl _) (Nat.le_refl _) hk
def M_nextNodder (m : Nat) (I : ow_I) : Int32 × ow_I :=
  lt (ow_u I m 18 (nI 0)) (fun (I1 : ow_I) => (M_thinker m I1, I1))
set_option maxRecDepth 100000 in
set_option maxHeartbeats 400000 in
theorem cM_nextNodder {S : Nat → Option ow_Sh} {I : ow_I} {V : Nat → Nat → Value} {z : Nat} {m : Nat} (h_m : md_S S m) (hv : md_V (I (m + 1))) : ow_Cf yX11_nextNodder cX11_nextNodder 1 (some .int) 5 [.ref m] (S, I, V, z) (some (.int ((M_nextNodder m I).1))) (S, (M_nextNodder m I).2, V, z) := by
  refine ow_Cf.of rfl (Nat.le_of_ble_eq_true rfl) (fun X K E F hk => ?_)
  have E : ow_E X RX11 cX11_nextNodder 1 (ow_rm 5 0 0) := E
  refine or_lv [(0, .ref m)] rfl ?_
  dsimp only [M_nextNodder] at hk
  refine or_aload_n E rfl dX11_nextNodder_0 ?_
  refine or_iconst (v := nI 0) E rfl dX11_nextNodder_1 ?_
  refine ot_putI E fl_11_54 fw_11_18 dX11_nextNodder_2 h_m.1 rfl ?_
  obtain ⟨I1, hI1⟩ : ∃ y_ : ow_I, y_ = ow_u I m 18 (nI 0) := ⟨_, rfl⟩
  replace hk := lt_k (P := fun r : Int32 × ow_I => K (some (.int ((r).1))) (S, (r).2, V, z)) hI1 hk
  refine or_nmI hI1 ?_
  refine or_aload_n E rfl dX11_nextNodder_5 ?_
  refine or_cV0r (cM_thinker  h_m (by subst hI1; rw [u_A]; exact hv)) E lk_11_132 dX11_nextNodder_6 h_m.1 rfl rfl (by decide) (by decide) ⟨Nat.le_refl _, Nat.le_refl _⟩ (Nat.le_of_ble_eq_true rfl) ?_
  try dsimp only at hk
  exact or_iret E F dX11_nextNodder_9 (Nat.le_refl _) (Nat.le_refl _) hk
def M_keenestBuyer_L14 (m : Nat) (b : Int32) : Nat → ow_I → Nat → Nat → Nat × ow_I
  | 0, I, _, _ => (default, I)
  | n + 1, I, k, i => if tn (I (m + 1) 6) ≤ i then (k, I) else if Op.cmpValue (FP.dcmp (M_worthTo m i (tn b) I) (M_worthTo m k (tn b) I)) .l ≤ 0 then M_keenestBuyer_L14 m b n I k (i + 1) else M_keenestBuyer_L14 m b n I i (i + 1)
def M_keenestBuyer (m : Nat) (b : Int32) (I : ow_I) : Nat × ow_I :=
  lt (M_lacksBarrel m b I) (fun (r1 : Bool × ow_I) => if r1.1 then (0, r1.2) else M_keenestBuyer_L14 m b 7 r1.2 0 1)
set_option maxRecDepth 100000 in
set_option maxHeartbeats 400000 in
theorem cM_keenestBuyer {S : Nat → Option ow_Sh} {I : ow_I} {V : Nat → Nat → Value} {z : Nat} {m : Nat} {b : Int32} (h_m : md_S S m) (hv : md_V (I (m + 1))) : ow_Cf yX11_keenestBuyer cX11_keenestBuyer 4 (some .int) 4 [.ref m, .int b] (S, I, V, z) (some (.int (nI ((M_keenestBuyer m b I).1)))) (S, (M_keenestBuyer m b I).2, V, z) := by
  refine ow_Cf.of rfl (Nat.le_of_ble_eq_true rfl) (fun X K E F hk => ?_)
  have E : ow_E X RX11 cX11_keenestBuyer 4 (ow_rm 4 0 0) := E
  refine or_lv [(0, .ref m), (1, .int b)] rfl ?_
  have L14 : ∀ (n : Nat) (I : ow_I) (k : Nat) (i : Nat) (hv : md_V (I (m + 1))) (hB : 0 ≤ b ∧ tn b < tn (I (m + 1) 7)) (hk6 : k < 6) (hi : i ≤ 6) (hm : 6 - i < n) (hk : K (some (.int (nI ((M_keenestBuyer_L14 m b n I k i).1)))) (S, (M_keenestBuyer_L14 m b n I k i).2, V, z)), ow_W X 0 0 (S, I, V, z) 14 [(0, .ref m), (1, .int b), (2, .int (nI k)), (3, .int (nI i))] [] := by
    intro n
    induction n with
    | zero => intro I k i hv hB hk6 hi hm; omega
    | succ n ih =>
      intro I k i hv hB hk6 hi hm hk
      dsimp only [M_keenestBuyer_L14] at hk
      have g6 := hv.2.1
      have g7 := hv.2.2.1
      refine or_iload_n E rfl dX11_keenestBuyer_14 ?_
      refine or_aload_n E rfl dX11_keenestBuyer_15 ?_
      refine ot_getC E fl_11_7 dX11_keenestBuyer_16 h_m.1 rfl ?_
      refine or_bipush (v := nI 6) E rfl dX11_keenestBuyer_19 ?_
      refine ot_iald (j := 6) E dX11_keenestBuyer_21 h_m.2.1 rfl rfl (by omega) (Nat.le_of_ble_eq_true rfl) ?_
      refine or_top (nI_tn hv.2.1.1).symm ?_
      refine or_icmp_geN 49 E dX11_keenestBuyer_22 rfl (by omega) (by omega) (fun q22 => ?_) (fun q22 => ?_)
      · replace hk := ite_p (P := fun r : Nat × ow_I => K (some (.int (nI ((r).1)))) (S, (r).2, V, z)) q22 hk
        refine or_iload_n E rfl dX11_keenestBuyer_49 ?_
        try dsimp only at hk
        exact or_iret E F dX11_keenestBuyer_50 (Nat.le_refl _) (Nat.le_refl _) hk
      · replace hk := ite_n (P := fun r : Nat × ow_I => K (some (.int (nI ((r).1)))) (S, (r).2, V, z)) q22 hk
        refine or_aload_n E rfl dX11_keenestBuyer_25 ?_
        refine or_iload_n E rfl dX11_keenestBuyer_26 ?_
        refine or_iload_n E rfl dX11_keenestBuyer_27 ?_
        refine or_top (nI_tn hB.1).symm ?_
        refine or_cV2r (cM_worthTo  h_m (by omega) (by omega) (hv.2.2.2.2.2.2.2.2.2 _ hB.2).1 (hv.2.2.2.2.2.2.2.2.2 _ hB.2).2.2) E lk_11_119 dX11_keenestBuyer_28 h_m.1 rfl rfl (by decide) (by decide) ⟨Nat.le_refl _, Nat.le_refl _⟩ (Nat.le_of_ble_eq_true rfl) ?_
        refine or_aload_n E rfl dX11_keenestBuyer_31 ?_
        refine or_iload_n E rfl dX11_keenestBuyer_32 ?_
        refine or_iload_n E rfl dX11_keenestBuyer_33 ?_
        refine or_top (nI_tn hB.1).symm ?_
        refine or_cV2r (cM_worthTo  h_m (by omega) (by omega) (hv.2.2.2.2.2.2.2.2.2 _ hB.2).1 (hv.2.2.2.2.2.2.2.2.2 _ hB.2).2.2) E lk_11_119 dX11_keenestBuyer_34 h_m.1 rfl rfl (by decide) (by decide) ⟨Nat.le_refl _, Nat.le_refl _⟩ (Nat.le_of_ble_eq_true rfl) ?_
        refine or_dcmp E dX11_keenestBuyer_37 ?_
        refine or_if_le 43 E dX11_keenestBuyer_38 rfl (fun q38 => ?_) (fun q38 => ?_)
        · replace hk := ite_p (P := fun r : Nat × ow_I => K (some (.int (nI ((r).1)))) (S, (r).2, V, z)) q38 hk
          refine or_iincN (c := 1) E dX11_keenestBuyer_43 rfl rfl (by decide) ?_
          refine or_goto 14 E dX11_keenestBuyer_46 rfl ?_
          refine or_lv _ ?_ (ih _ _ _ hv hB (by omega) (by omega) (by omega) hk)
          rfl
        · replace hk := ite_n (P := fun r : Nat × ow_I => K (some (.int (nI ((r).1)))) (S, (r).2, V, z)) q38 hk
          refine or_iload_n E rfl dX11_keenestBuyer_41 ?_
          refine or_istore_n E dX11_keenestBuyer_42 (by decide) ?_
          refine or_iincN (c := 1) E dX11_keenestBuyer_43 rfl rfl (by decide) ?_
          refine or_goto 14 E dX11_keenestBuyer_46 rfl ?_
          refine or_lv _ ?_ (ih _ _ _ hv hB (by omega) (by omega) (by omega) hk)
          rfl
  dsimp only [M_keenestBuyer] at hk
  refine or_aload_n E rfl dX11_keenestBuyer_0 ?_
  refine or_iload_n E rfl dX11_keenestBuyer_1 ?_
  refine or_cV1r (cM_lacksBarrel  h_m ) E lk_11_308 dX11_keenestBuyer_2 h_m.1 rfl rfl (by decide) (by decide) ⟨Nat.le_refl _, Nat.le_refl _⟩ (Nat.le_of_ble_eq_true rfl) ?_
  obtain ⟨r1, hr1⟩ : ∃ y_ : Bool × ow_I, y_ = M_lacksBarrel m b I := ⟨_, rfl⟩
  replace hk := lt_k (P := fun r : Nat × ow_I => K (some (.int (nI ((r).1)))) (S, (r).2, V, z)) hr1 hk
  refine or_nmZ hr1 ?_
  refine or_if_eqZ 10 E dX11_keenestBuyer_5 rfl (fun q5 => ?_) (fun q5 => ?_)
  · replace hk := ite_n (P := fun r : Nat × ow_I => K (some (.int (nI ((r).1)))) (S, (r).2, V, z)) (bz_neg q5) hk
    refine or_iconst (v := nI 0) E rfl dX11_keenestBuyer_10 ?_
    refine or_istore_n E dX11_keenestBuyer_11 (by decide) ?_
    refine or_iconst (v := nI 1) E rfl dX11_keenestBuyer_12 ?_
    refine or_istore_n E dX11_keenestBuyer_13 (by decide) ?_
    refine or_lv _ ?_ (L14 7 _ _ _ (by subst hr1; rw [lB_A]; exact hv) (by subst hr1; rw [lB_A]; exact lB_1 hv q5) (by decide) (by decide) (by decide) hk)
    rfl
  · replace hk := ite_p (P := fun r : Nat × ow_I => K (some (.int (nI ((r).1)))) (S, (r).2, V, z)) q5 hk
    refine or_iconst (v := nI 0) E rfl dX11_keenestBuyer_8 ?_
    try dsimp only at hk
    exact or_iret E F dX11_keenestBuyer_9 (Nat.le_refl _) (Nat.le_refl _) hk
def M_minutesToSale_L19 (m : Nat) (b : Int32) : Nat → ow_I → Nat → Int32 × ow_I
  | 0, I, _ => (default, I)
  | n + 1, I, i => if M_ofBarrel m (tn b) 12 I = nI 2 then if M_ofBarrel m (tn b) 12 I = nI 2 then lt (M_endTrial m (nI i) I) (fun (r4 : Int32 × ow_I) => (r4.1, r4.2)) else lt (M_endTrial m ((-1)) I) (fun (r3 : Int32 × ow_I) => (r3.1, r3.2)) else if 500 ≤ i then if M_ofBarrel m (tn b) 12 I = nI 2 then lt (M_endTrial m (nI i) I) (fun (r6 : Int32 × ow_I) => (r6.1, r6.2)) else lt (M_endTrial m ((-1)) I) (fun (r5 : Int32 × ow_I) => (r5.1, r5.2)) else lt (M_passOne m I) (fun (I7 : ow_I) => M_minutesToSale_L19 m b n I7 (i + 1))
def M_minutesToSale (m : Nat) (b : Int32) (I : ow_I) : Int32 × ow_I :=
  lt (M_lacksBarrel m b I) (fun (r1 : Bool × ow_I) => if r1.1 then (nI 0, r1.2) else lt (M_copyBlock m 0 12 r1.2) (fun (I2 : ow_I) => M_minutesToSale_L19 m b 501 I2 0))
set_option maxRecDepth 100000 in
set_option maxHeartbeats 400000 in
theorem cM_minutesToSale {S : Nat → Option ow_Sh} {I : ow_I} {V : Nat → Nat → Value} {z : Nat} {m : Nat} {b : Int32} (h_m : md_S S m) (hv : md_V (I (m + 1))) : ow_Cf yX11_minutesToSale cX11_minutesToSale 3 (some .int) 7 [.ref m, .int b] (S, I, V, z) (some (.int ((M_minutesToSale m b I).1))) (S, (M_minutesToSale m b I).2, V, z) := by
  refine ow_Cf.of rfl (Nat.le_of_ble_eq_true rfl) (fun X K E F hk => ?_)
  have E : ow_E X RX11 cX11_minutesToSale 3 (ow_rm 7 0 0) := E
  refine or_lv [(0, .ref m), (1, .int b)] rfl ?_
  have L19 : ∀ (n : Nat) (I : ow_I) (i : Nat) (hv : md_V (I (m + 1))) (hB : 0 ≤ b ∧ tn b < 20) (hi : i ≤ 500) (hm : 500 - i < n) (hk : K (some (.int ((M_minutesToSale_L19 m b n I i).1))) (S, (M_minutesToSale_L19 m b n I i).2, V, z)), ow_W X 0 0 (S, I, V, z) 19 [(0, .ref m), (1, .int b), (2, .int (nI i))] [] := by
    intro n
    induction n with
    | zero => intro I i hv hB hi hm; omega
    | succ n ih =>
      intro I i hv hB hi hm hk
      dsimp only [M_minutesToSale_L19] at hk
      refine or_aload_n E rfl dX11_minutesToSale_19 ?_
      refine or_iload_n E rfl dX11_minutesToSale_20 ?_
      refine or_top (nI_tn hB.1).symm ?_
      refine or_bipush (v := nI 12) E rfl dX11_minutesToSale_21 ?_
      refine or_cV2r (cM_ofBarrel  h_m (by omega)) E lk_11_66 dX11_minutesToSale_23 h_m.1 rfl rfl (by decide) (by decide) ⟨Nat.le_refl _, Nat.le_refl _⟩ (Nat.le_of_ble_eq_true rfl) ?_
      refine or_iconst (v := nI 2) E rfl dX11_minutesToSale_26 ?_
      refine or_icmp_eq 47 E dX11_minutesToSale_27 rfl (fun q27 => ?_) (fun q27 => ?_)
      · replace hk := ite_p (P := fun r : Int32 × ow_I => K (some (.int ((r).1))) (S, (r).2, V, z)) q27 hk
        refine or_aload_n E rfl dX11_minutesToSale_47 ?_
        refine or_aload_n E rfl dX11_minutesToSale_48 ?_
        refine or_iload_n E rfl dX11_minutesToSale_49 ?_
        refine or_top (nI_tn hB.1).symm ?_
        refine or_bipush (v := nI 12) E rfl dX11_minutesToSale_50 ?_
        refine or_cV2r (cM_ofBarrel  h_m (by omega)) E lk_11_66 dX11_minutesToSale_52 h_m.1 rfl rfl (by decide) (by decide) ⟨Nat.le_refl _, Nat.le_refl _⟩ (Nat.le_of_ble_eq_true rfl) ?_
        refine or_iconst (v := nI 2) E rfl dX11_minutesToSale_55 ?_
        refine or_icmp_ne 63 E dX11_minutesToSale_56 rfl (fun q56 => ?_) (fun q56 => ?_)
        · replace hk := ite_n (P := fun r : Int32 × ow_I => K (some (.int ((r).1))) (S, (r).2, V, z)) q56 hk
          refine or_iconst (v := -1) E rfl dX11_minutesToSale_63 ?_
          refine or_cV1r (cM_endTrial  h_m ) E lk_11_314 dX11_minutesToSale_64 h_m.1 rfl rfl (by decide) (by decide) ⟨Nat.le_refl _, Nat.le_refl _⟩ (Nat.le_of_ble_eq_true rfl) ?_
          obtain ⟨r3, hr3⟩ : ∃ y_ : Int32 × ow_I, y_ = M_endTrial m ((-1)) I := ⟨_, rfl⟩
          replace hk := lt_k (P := fun r : Int32 × ow_I => K (some (.int ((r).1))) (S, (r).2, V, z)) hr3 hk
          refine or_nmJ hr3 ?_
          try dsimp only at hk
          exact or_iret E F dX11_minutesToSale_67 (Nat.le_refl _) (Nat.le_refl _) hk
        · replace hk := ite_p (P := fun r : Int32 × ow_I => K (some (.int ((r).1))) (S, (r).2, V, z)) q56 hk
          refine or_iload_n E rfl dX11_minutesToSale_59 ?_
          refine or_goto 64 E dX11_minutesToSale_60 rfl ?_
          refine or_cV1r (cM_endTrial  h_m ) E lk_11_314 dX11_minutesToSale_64 h_m.1 rfl rfl (by decide) (by decide) ⟨Nat.le_refl _, Nat.le_refl _⟩ (Nat.le_of_ble_eq_true rfl) ?_
          obtain ⟨r4, hr4⟩ : ∃ y_ : Int32 × ow_I, y_ = M_endTrial m (nI i) I := ⟨_, rfl⟩
          replace hk := lt_k (P := fun r : Int32 × ow_I => K (some (.int ((r).1))) (S, (r).2, V, z)) hr4 hk
          refine or_nmJ hr4 ?_
          try dsimp only at hk
          exact or_iret E F dX11_minutesToSale_67 (Nat.le_refl _) (Nat.le_refl _) hk
      · replace hk := ite_n (P := fun r : Int32 × ow_I => K (some (.int ((r).1))) (S, (r).2, V, z)) q27 hk
        refine or_iload_n E rfl dX11_minutesToSale_30 ?_
        refine or_sipush (v := nI 500) E rfl dX11_minutesToSale_31 ?_
        refine or_icmp_geN 47 E dX11_minutesToSale_34 rfl (by omega) (by omega) (fun q34 => ?_) (fun q34 => ?_)
        · replace hk := ite_p (P := fun r : Int32 × ow_I => K (some (.int ((r).1))) (S, (r).2, V, z)) q34 hk
          refine or_aload_n E rfl dX11_minutesToSale_47 ?_
          refine or_aload_n E rfl dX11_minutesToSale_48 ?_
          refine or_iload_n E rfl dX11_minutesToSale_49 ?_
          refine or_top (nI_tn hB.1).symm ?_
          refine or_bipush (v := nI 12) E rfl dX11_minutesToSale_50 ?_
          refine or_cV2r (cM_ofBarrel  h_m (by omega)) E lk_11_66 dX11_minutesToSale_52 h_m.1 rfl rfl (by decide) (by decide) ⟨Nat.le_refl _, Nat.le_refl _⟩ (Nat.le_of_ble_eq_true rfl) ?_
          refine or_iconst (v := nI 2) E rfl dX11_minutesToSale_55 ?_
          refine or_icmp_ne 63 E dX11_minutesToSale_56 rfl (fun q56 => ?_) (fun q56 => ?_)
          · replace hk := ite_n (P := fun r : Int32 × ow_I => K (some (.int ((r).1))) (S, (r).2, V, z)) q56 hk
            refine or_iconst (v := -1) E rfl dX11_minutesToSale_63 ?_
            refine or_cV1r (cM_endTrial  h_m ) E lk_11_314 dX11_minutesToSale_64 h_m.1 rfl rfl (by decide) (by decide) ⟨Nat.le_refl _, Nat.le_refl _⟩ (Nat.le_of_ble_eq_true rfl) ?_
            obtain ⟨r5, hr5⟩ : ∃ y_ : Int32 × ow_I, y_ = M_endTrial m ((-1)) I := ⟨_, rfl⟩
            replace hk := lt_k (P := fun r : Int32 × ow_I => K (some (.int ((r).1))) (S, (r).2, V, z)) hr5 hk
            refine or_nmJ hr5 ?_
            try dsimp only at hk
            exact or_iret E F dX11_minutesToSale_67 (Nat.le_refl _) (Nat.le_refl _) hk
          · replace hk := ite_p (P := fun r : Int32 × ow_I => K (some (.int ((r).1))) (S, (r).2, V, z)) q56 hk
            refine or_iload_n E rfl dX11_minutesToSale_59 ?_
            refine or_goto 64 E dX11_minutesToSale_60 rfl ?_
            refine or_cV1r (cM_endTrial  h_m ) E lk_11_314 dX11_minutesToSale_64 h_m.1 rfl rfl (by decide) (by decide) ⟨Nat.le_refl _, Nat.le_refl _⟩ (Nat.le_of_ble_eq_true rfl) ?_
            obtain ⟨r6, hr6⟩ : ∃ y_ : Int32 × ow_I, y_ = M_endTrial m (nI i) I := ⟨_, rfl⟩
            replace hk := lt_k (P := fun r : Int32 × ow_I => K (some (.int ((r).1))) (S, (r).2, V, z)) hr6 hk
            refine or_nmJ hr6 ?_
            try dsimp only at hk
            exact or_iret E F dX11_minutesToSale_67 (Nat.le_refl _) (Nat.le_refl _) hk
        · replace hk := ite_n (P := fun r : Int32 × ow_I => K (some (.int ((r).1))) (S, (r).2, V, z)) q34 hk
          refine or_aload_n E rfl dX11_minutesToSale_37 ?_
          refine or_cV0v (cM_passOne  h_m hv) E lk_11_153 dX11_minutesToSale_38 h_m.1 rfl rfl (by decide) (by decide) ⟨Nat.le_refl _, Nat.le_refl _⟩ (Nat.le_of_ble_eq_true rfl) ?_
          obtain ⟨I7, hI7⟩ : ∃ y_ : ow_I, y_ = M_passOne m I := ⟨_, rfl⟩
          replace hk := lt_k (P := fun r : Int32 × ow_I => K (some (.int ((r).1))) (S, (r).2, V, z)) hI7 hk
          refine or_nmI hI7 ?_
          refine or_iincN (c := 1) E dX11_minutesToSale_41 rfl rfl (by decide) ?_
          refine or_goto 19 E dX11_minutesToSale_44 rfl ?_
          refine or_lv _ ?_ (ih _ _ (by subst hI7; exact (V_passOne hv)) (by subst hI7; exact hB) (by subst hI7; omega) (by omega) hk)
          rfl
  dsimp only [M_minutesToSale] at hk
  refine or_aload_n E rfl dX11_minutesToSale_0 ?_
  refine or_iload_n E rfl dX11_minutesToSale_1 ?_
  refine or_cV1r (cM_lacksBarrel  h_m ) E lk_11_308 dX11_minutesToSale_2 h_m.1 rfl rfl (by decide) (by decide) ⟨Nat.le_refl _, Nat.le_refl _⟩ (Nat.le_of_ble_eq_true rfl) ?_
  obtain ⟨r1, hr1⟩ : ∃ y_ : Bool × ow_I, y_ = M_lacksBarrel m b I := ⟨_, rfl⟩
  replace hk := lt_k (P := fun r : Int32 × ow_I => K (some (.int ((r).1))) (S, (r).2, V, z)) hr1 hk
  refine or_nmZ hr1 ?_
  refine or_if_eqZ 10 E dX11_minutesToSale_5 rfl (fun q5 => ?_) (fun q5 => ?_)
  · replace hk := ite_n (P := fun r : Int32 × ow_I => K (some (.int ((r).1))) (S, (r).2, V, z)) (bz_neg q5) hk
    refine or_aload_n E rfl dX11_minutesToSale_10 ?_
    refine or_iconst (v := nI 0) E rfl dX11_minutesToSale_11 ?_
    refine or_bipush (v := nI 12) E rfl dX11_minutesToSale_12 ?_
    refine or_cV2v (cM_copyBlock  h_m (by decide) (by decide)) E lk_11_63 dX11_minutesToSale_14 h_m.1 rfl rfl (by decide) (by decide) ⟨Nat.le_refl _, Nat.le_refl _⟩ (Nat.le_of_ble_eq_true rfl) ?_
    obtain ⟨I2, hI2⟩ : ∃ y_ : ow_I, y_ = M_copyBlock m 0 12 r1.2 := ⟨_, rfl⟩
    replace hk := lt_k (P := fun r : Int32 × ow_I => K (some (.int ((r).1))) (S, (r).2, V, z)) hI2 hk
    refine or_nmI hI2 ?_
    refine or_iconst (v := nI 0) E rfl dX11_minutesToSale_17 ?_
    refine or_istore_n E dX11_minutesToSale_18 (by decide) ?_
    refine or_lv _ ?_ (L19 501 _ _ (by subst hI2 hr1; exact (V_cb (by rw [lB_A]; exact hv) (by decide))) (by subst hI2 hr1; exact ⟨(lB_1 hv q5).1,(lB_e hv q5).2.2.2⟩) (by decide) (by decide) hk)
    rfl
  · replace hk := ite_p (P := fun r : Int32 × ow_I => K (some (.int ((r).1))) (S, (r).2, V, z)) q5 hk
    refine or_iconst (v := nI 0) E rfl dX11_minutesToSale_8 ?_
    try dsimp only at hk
    exact or_iret E F dX11_minutesToSale_9 (Nat.le_refl _) (Nat.le_refl _) hk
def M_buyerAfter (m : Nat) (b : Int32) (n2 : Int32) (I : ow_I) : Int32 × ow_I :=
  lt (M_lacksBarrel m b I) (fun (r1 : Bool × ow_I) => if r1.1 then (nI 0, r1.2) else if M_in n2 (nI 0) (nI 500) r1.2 then lt (M_copyBlock m 0 12 r1.2) (fun (I2 : ow_I) => lt (M_passAll m (tn n2) I2) (fun (r3 : Int32 × ow_I) => lt (M_endTrial m (M_ofBarrel m (tn b) 13 r3.2) r3.2) (fun (r4 : Int32 × ow_I) => (r4.1, r4.2)))) else lt (ow_u r1.2 m 18 (nI 2)) (fun (I5 : ow_I) => (nI 0, I5)))
set_option maxRecDepth 100000 in
set_option maxHeartbeats 400000 in
theorem cM_buyerAfter {S : Nat → Option ow_Sh} {I : ow_I} {V : Nat → Nat → Value} {z : Nat} {m : Nat} {b : Int32} {n2 : Int32} (h_m : md_S S m) (hv : md_V (I (m + 1))) : ow_Cf yX11_buyerAfter cX11_buyerAfter 3 (some .int) 8 [.ref m, .int b, .int n2] (S, I, V, z) (some (.int ((M_buyerAfter m b n2 I).1))) (S, (M_buyerAfter m b n2 I).2, V, z) := by
  refine ow_Cf.of rfl (Nat.le_of_ble_eq_true rfl) (fun X K E F hk => ?_)
  have E : ow_E X RX11 cX11_buyerAfter 3 (ow_rm 8 0 0) := E
  refine or_lv [(0, .ref m), (1, .int b), (2, .int n2)] rfl ?_
  dsimp only [M_buyerAfter] at hk
  refine or_aload_n E rfl dX11_buyerAfter_0 ?_
  refine or_iload_n E rfl dX11_buyerAfter_1 ?_
  refine or_cV1r (cM_lacksBarrel  h_m ) E lk_11_308 dX11_buyerAfter_2 h_m.1 rfl rfl (by decide) (by decide) ⟨Nat.le_refl _, Nat.le_refl _⟩ (Nat.le_of_ble_eq_true rfl) ?_
  obtain ⟨r1, hr1⟩ : ∃ y_ : Bool × ow_I, y_ = M_lacksBarrel m b I := ⟨_, rfl⟩
  replace hk := lt_k (P := fun r : Int32 × ow_I => K (some (.int ((r).1))) (S, (r).2, V, z)) hr1 hk
  refine or_nmZ hr1 ?_
  refine or_if_neZ 32 E dX11_buyerAfter_5 rfl (fun q5 => ?_) (fun q5 => ?_)
  · replace hk := ite_p (P := fun r : Int32 × ow_I => K (some (.int ((r).1))) (S, (r).2, V, z)) q5 hk
    refine or_iconst (v := nI 0) E rfl dX11_buyerAfter_32 ?_
    try dsimp only at hk
    exact or_iret E F dX11_buyerAfter_33 (Nat.le_refl _) (Nat.le_refl _) hk
  · replace hk := ite_n (P := fun r : Int32 × ow_I => K (some (.int ((r).1))) (S, (r).2, V, z)) (bz_neg q5) hk
    refine or_aload_n E rfl dX11_buyerAfter_8 ?_
    refine or_iload_n E rfl dX11_buyerAfter_9 ?_
    refine or_iconst (v := nI 0) E rfl dX11_buyerAfter_10 ?_
    refine or_sipush (v := nI 500) E rfl dX11_buyerAfter_11 ?_
    refine or_cS3r (cM_in   ) E lk_11_173 dX11_buyerAfter_14 (by decide) (by decide) ⟨Nat.le_refl _, Nat.le_refl _⟩ (Nat.le_of_ble_eq_true rfl) ?_
    refine or_if_neZ 24 E dX11_buyerAfter_17 rfl (fun q17 => ?_) (fun q17 => ?_)
    · replace hk := ite_p (P := fun r : Int32 × ow_I => K (some (.int ((r).1))) (S, (r).2, V, z)) q17 hk
      refine or_iconst (v := nI 0) E rfl dX11_buyerAfter_24 ?_
      refine or_iconst (v := nI 2) E rfl dX11_buyerAfter_25 ?_
      refine or_cV2r (cM_thrF h_m) E lk_11_166 dX11_buyerAfter_26 h_m.1 rfl rfl (by decide) (by decide) ⟨Nat.le_refl _, Nat.le_refl _⟩ (Nat.le_of_ble_eq_true rfl) ?_
      refine or_if_eqZ 34 E dX11_buyerAfter_29 rfl (fun q29 => ?_) (fun q29 => absurd q29 (by decide))
      refine or_aload_n E rfl dX11_buyerAfter_34 ?_
      refine or_iconst (v := nI 0) E rfl dX11_buyerAfter_35 ?_
      refine or_bipush (v := nI 12) E rfl dX11_buyerAfter_36 ?_
      refine or_cV2v (cM_copyBlock  h_m (by decide) (by decide)) E lk_11_63 dX11_buyerAfter_38 h_m.1 rfl rfl (by decide) (by decide) ⟨Nat.le_refl _, Nat.le_refl _⟩ (Nat.le_of_ble_eq_true rfl) ?_
      obtain ⟨I2, hI2⟩ : ∃ y_ : ow_I, y_ = M_copyBlock m 0 12 r1.2 := ⟨_, rfl⟩
      replace hk := lt_k (P := fun r : Int32 × ow_I => K (some (.int ((r).1))) (S, (r).2, V, z)) hI2 hk
      refine or_nmI hI2 ?_
      refine or_aload_n E rfl dX11_buyerAfter_41 ?_
      refine or_iload_n E rfl dX11_buyerAfter_42 ?_
      refine or_top (nI_tn (by subst hI2 hr1; exact (i32_le (a := 0) (b := 500) (by decide) (by decide) (in_rng q17).1 (in_rng q17).2).1)).symm ?_
      refine or_cV1r (cM_passAll  h_m (by subst hI2 hr1; have := (i32_le (a := 0) (b := 500) (by decide) (by decide) (in_rng q17).1 (in_rng q17).2).2.2; omega) (by subst hI2 hr1; exact (V_cb (by rw [lB_A]; exact hv) (by decide)))) E lk_11_296 dX11_buyerAfter_43 h_m.1 rfl rfl (by decide) (by decide) ⟨Nat.le_refl _, Nat.le_refl _⟩ (Nat.le_of_ble_eq_true rfl) ?_
      obtain ⟨r3, hr3⟩ : ∃ y_ : Int32 × ow_I, y_ = M_passAll m (tn n2) I2 := ⟨_, rfl⟩
      replace hk := lt_k (P := fun r : Int32 × ow_I => K (some (.int ((r).1))) (S, (r).2, V, z)) hr3 hk
      refine or_nmJ hr3 ?_
      refine or_pop E rfl dX11_buyerAfter_46 ?_
      refine or_aload_n E rfl dX11_buyerAfter_47 ?_
      refine or_aload_n E rfl dX11_buyerAfter_48 ?_
      refine or_iload_n E rfl dX11_buyerAfter_49 ?_
      refine or_top (nI_tn (by subst hr3 hI2 hr1; exact (lB_1 hv q5).1)).symm ?_
      refine or_bipush (v := nI 13) E rfl dX11_buyerAfter_50 ?_
      refine or_cV2r (cM_ofBarrel  h_m (by subst hr3 hI2 hr1; have := (lB_e hv q5).2.2.2; omega)) E lk_11_66 dX11_buyerAfter_52 h_m.1 rfl rfl (by decide) (by decide) ⟨Nat.le_refl _, Nat.le_refl _⟩ (Nat.le_of_ble_eq_true rfl) ?_
      refine or_cV1r (cM_endTrial  h_m ) E lk_11_314 dX11_buyerAfter_55 h_m.1 rfl rfl (by decide) (by decide) ⟨Nat.le_refl _, Nat.le_refl _⟩ (Nat.le_of_ble_eq_true rfl) ?_
      obtain ⟨r4, hr4⟩ : ∃ y_ : Int32 × ow_I, y_ = M_endTrial m (M_ofBarrel m (tn b) 13 r3.2) r3.2 := ⟨_, rfl⟩
      replace hk := lt_k (P := fun r : Int32 × ow_I => K (some (.int ((r).1))) (S, (r).2, V, z)) hr4 hk
      refine or_nmJ hr4 ?_
      try dsimp only at hk
      exact or_iret E F dX11_buyerAfter_58 (Nat.le_refl _) (Nat.le_refl _) hk
    · replace hk := ite_n (P := fun r : Int32 × ow_I => K (some (.int ((r).1))) (S, (r).2, V, z)) (bz_neg q17) hk
      refine or_iconst (v := nI 1) E rfl dX11_buyerAfter_20 ?_
      refine or_goto 25 E dX11_buyerAfter_21 rfl ?_
      refine or_iconst (v := nI 2) E rfl dX11_buyerAfter_25 ?_
      refine or_cV2r (cM_thrT h_m) E lk_11_166 dX11_buyerAfter_26 h_m.1 rfl rfl (by decide) (by decide) ⟨Nat.le_refl _, Nat.le_refl _⟩ (Nat.le_of_ble_eq_true rfl) ?_
      obtain ⟨I5, hI5⟩ : ∃ y_ : ow_I, y_ = ow_u r1.2 m 18 (nI 2) := ⟨_, rfl⟩
      replace hk := lt_k (P := fun r : Int32 × ow_I => K (some (.int ((r).1))) (S, (r).2, V, z)) hI5 hk
      refine or_nmI hI5 ?_
      refine or_if_eqZ 34 E dX11_buyerAfter_29 rfl (fun q29 => absurd q29 (by decide)) (fun q29 => ?_)
      refine or_iconst (v := nI 0) E rfl dX11_buyerAfter_32 ?_
      try dsimp only at hk
      exact or_iret E F dX11_buyerAfter_33 (Nat.le_refl _) (Nat.le_refl _) hk
def M_coinsWith (m : Nat) (s : Int32) (n2 : Nat) (I : ow_I) : Int32 × ow_I :=
  lt (M_copyBlock m 0 12 I) (fun (I1 : ow_I) => lt (ow_u I1 (m + 1) 3 s) (fun (I2 : ow_I) => lt (M_passAll m n2 I2) (fun (r3 : Int32 × ow_I) => lt (M_endTrial m (r3.2 (m + 1) 13) r3.2) (fun (r4 : Int32 × ow_I) => (r4.1, r4.2)))))
set_option maxRecDepth 100000 in
set_option maxHeartbeats 400000 in
theorem cM_coinsWith {S : Nat → Option ow_Sh} {I : ow_I} {V : Nat → Nat → Value} {z : Nat} {m : Nat} {s : Int32} {n2 : Nat} (h_m : md_S S m) (hv : md_V (I (m + 1))) (hn : n2 < 2 ^ 31) : ow_Cf yX11_coinsWith cX11_coinsWith 3 (some .int) 8 [.ref m, .int s, .int (nI n2)] (S, I, V, z) (some (.int ((M_coinsWith m s n2 I).1))) (S, (M_coinsWith m s n2 I).2, V, z) := by
  refine ow_Cf.of rfl (Nat.le_of_ble_eq_true rfl) (fun X K E F hk => ?_)
  have E : ow_E X RX11 cX11_coinsWith 3 (ow_rm 8 0 0) := E
  refine or_lv [(0, .ref m), (1, .int s), (2, .int (nI n2))] rfl ?_
  dsimp only [M_coinsWith] at hk
  refine or_aload_n E rfl dX11_coinsWith_0 ?_
  refine or_iconst (v := nI 0) E rfl dX11_coinsWith_1 ?_
  refine or_bipush (v := nI 12) E rfl dX11_coinsWith_2 ?_
  refine or_cV2v (cM_copyBlock  h_m (by decide) (by decide)) E lk_11_63 dX11_coinsWith_4 h_m.1 rfl rfl (by decide) (by decide) ⟨Nat.le_refl _, Nat.le_refl _⟩ (Nat.le_of_ble_eq_true rfl) ?_
  obtain ⟨I1, hI1⟩ : ∃ y_ : ow_I, y_ = M_copyBlock m 0 12 I := ⟨_, rfl⟩
  replace hk := lt_k (P := fun r : Int32 × ow_I => K (some (.int ((r).1))) (S, (r).2, V, z)) hI1 hk
  refine or_nmI hI1 ?_
  refine or_aload_n E rfl dX11_coinsWith_7 ?_
  refine ot_getC E fl_11_7 dX11_coinsWith_8 h_m.1 rfl ?_
  refine or_iconst (v := nI 3) E rfl dX11_coinsWith_11 ?_
  refine or_iload_n E rfl dX11_coinsWith_12 ?_
  refine ot_iast (j := 3) E dX11_coinsWith_13 h_m.2.1 rfl rfl (by omega) (Nat.le_of_ble_eq_true rfl) ?_
  obtain ⟨I2, hI2⟩ : ∃ y_ : ow_I, y_ = ow_u I1 (m + 1) 3 s := ⟨_, rfl⟩
  replace hk := lt_k (P := fun r : Int32 × ow_I => K (some (.int ((r).1))) (S, (r).2, V, z)) hI2 hk
  refine or_nmI hI2 ?_
  refine or_aload_n E rfl dX11_coinsWith_14 ?_
  refine or_iload_n E rfl dX11_coinsWith_15 ?_
  refine or_cV1r (cM_passAll  h_m (by subst hI2 hI1; exact hn) (by subst hI2 hI1; exact (V_row (V_cb hv (by decide)) _ (Or.inr (Or.inr rfl))))) E lk_11_296 dX11_coinsWith_16 h_m.1 rfl rfl (by decide) (by decide) ⟨Nat.le_refl _, Nat.le_refl _⟩ (Nat.le_of_ble_eq_true rfl) ?_
  obtain ⟨r3, hr3⟩ : ∃ y_ : Int32 × ow_I, y_ = M_passAll m n2 I2 := ⟨_, rfl⟩
  replace hk := lt_k (P := fun r : Int32 × ow_I => K (some (.int ((r).1))) (S, (r).2, V, z)) hr3 hk
  refine or_nmJ hr3 ?_
  refine or_pop E rfl dX11_coinsWith_19 ?_
  refine or_aload_n E rfl dX11_coinsWith_20 ?_
  refine or_aload_n E rfl dX11_coinsWith_21 ?_
  refine ot_getC E fl_11_7 dX11_coinsWith_22 h_m.1 rfl ?_
  refine or_bipush (v := nI 13) E rfl dX11_coinsWith_25 ?_
  refine ot_iald (j := 13) E dX11_coinsWith_27 h_m.2.1 rfl rfl (by omega) (Nat.le_of_ble_eq_true rfl) ?_
  refine or_cV1r (cM_endTrial  h_m ) E lk_11_314 dX11_coinsWith_28 h_m.1 rfl rfl (by decide) (by decide) ⟨Nat.le_refl _, Nat.le_refl _⟩ (Nat.le_of_ble_eq_true rfl) ?_
  obtain ⟨r4, hr4⟩ : ∃ y_ : Int32 × ow_I, y_ = M_endTrial m (r3.2 (m + 1) 13) r3.2 := ⟨_, rfl⟩
  replace hk := lt_k (P := fun r : Int32 × ow_I => K (some (.int ((r).1))) (S, (r).2, V, z)) hr4 hk
  refine or_nmJ hr4 ?_
  try dsimp only at hk
  exact or_iret E F dX11_coinsWith_31 (Nat.le_refl _) (Nat.le_refl _) hk
def M_sellerCoinsAfter (m : Nat) (n2 : Int32) (I : ow_I) : Int32 × ow_I :=
  lt (ow_u I m 18 (nI 0)) (fun (I1 : ow_I) => if M_in n2 (nI 0) (nI 500) I1 then lt (M_coinsWith m (I1 (m + 1) 3) (tn n2) I1) (fun (r2 : Int32 × ow_I) => (r2.1, r2.2)) else lt (ow_u I1 m 18 (nI 1)) (fun (I3 : ow_I) => (nI 0, I3)))
set_option maxRecDepth 100000 in
set_option maxHeartbeats 400000 in
theorem cM_sellerCoinsAfter {S : Nat → Option ow_Sh} {I : ow_I} {V : Nat → Nat → Value} {z : Nat} {m : Nat} {n2 : Int32} (h_m : md_S S m) (hv : md_V (I (m + 1))) : ow_Cf yX11_sellerCoinsAfter cX11_sellerCoinsAfter 2 (some .int) 9 [.ref m, .int n2] (S, I, V, z) (some (.int ((M_sellerCoinsAfter m n2 I).1))) (S, (M_sellerCoinsAfter m n2 I).2, V, z) := by
  refine ow_Cf.of rfl (Nat.le_of_ble_eq_true rfl) (fun X K E F hk => ?_)
  have E : ow_E X RX11 cX11_sellerCoinsAfter 2 (ow_rm 9 0 0) := E
  refine or_lv [(0, .ref m), (1, .int n2)] rfl ?_
  dsimp only [M_sellerCoinsAfter] at hk
  refine or_aload_n E rfl dX11_sellerCoinsAfter_0 ?_
  refine or_iconst (v := nI 0) E rfl dX11_sellerCoinsAfter_1 ?_
  refine ot_putI E fl_11_54 fw_11_18 dX11_sellerCoinsAfter_2 h_m.1 rfl ?_
  obtain ⟨I1, hI1⟩ : ∃ y_ : ow_I, y_ = ow_u I m 18 (nI 0) := ⟨_, rfl⟩
  replace hk := lt_k (P := fun r : Int32 × ow_I => K (some (.int ((r).1))) (S, (r).2, V, z)) hI1 hk
  refine or_nmI hI1 ?_
  refine or_aload_n E rfl dX11_sellerCoinsAfter_5 ?_
  refine or_iload_n E rfl dX11_sellerCoinsAfter_6 ?_
  refine or_iconst (v := nI 0) E rfl dX11_sellerCoinsAfter_7 ?_
  refine or_sipush (v := nI 500) E rfl dX11_sellerCoinsAfter_8 ?_
  refine or_cS3r (cM_in   ) E lk_11_173 dX11_sellerCoinsAfter_11 (by decide) (by decide) ⟨Nat.le_refl _, Nat.le_refl _⟩ (Nat.le_of_ble_eq_true rfl) ?_
  refine or_if_neZ 21 E dX11_sellerCoinsAfter_14 rfl (fun q14 => ?_) (fun q14 => ?_)
  · replace hk := ite_p (P := fun r : Int32 × ow_I => K (some (.int ((r).1))) (S, (r).2, V, z)) q14 hk
    refine or_iconst (v := nI 0) E rfl dX11_sellerCoinsAfter_21 ?_
    refine or_iconst (v := nI 1) E rfl dX11_sellerCoinsAfter_22 ?_
    refine or_cV2r (cM_thrF h_m) E lk_11_166 dX11_sellerCoinsAfter_23 h_m.1 rfl rfl (by decide) (by decide) ⟨Nat.le_refl _, Nat.le_refl _⟩ (Nat.le_of_ble_eq_true rfl) ?_
    refine or_if_eqZ 31 E dX11_sellerCoinsAfter_26 rfl (fun q26 => ?_) (fun q26 => absurd q26 (by decide))
    refine or_aload_n E rfl dX11_sellerCoinsAfter_31 ?_
    refine or_aload_n E rfl dX11_sellerCoinsAfter_32 ?_
    refine ot_getC E fl_11_7 dX11_sellerCoinsAfter_33 h_m.1 rfl ?_
    refine or_iconst (v := nI 3) E rfl dX11_sellerCoinsAfter_36 ?_
    refine ot_iald (j := 3) E dX11_sellerCoinsAfter_37 h_m.2.1 rfl rfl (by omega) (Nat.le_of_ble_eq_true rfl) ?_
    refine or_iload_n E rfl dX11_sellerCoinsAfter_38 ?_
    refine or_top (nI_tn (by subst hI1; exact (i32_le (a := 0) (b := 500) (by decide) (by decide) (in_rng q14).1 (in_rng q14).2).1)).symm ?_
    refine or_cV2r (cM_coinsWith  h_m (by subst hI1; rw [u_A]; exact hv) (by subst hI1; have := (i32_le (a := 0) (b := 500) (by decide) (by decide) (in_rng q14).1 (in_rng q14).2).2.2; omega)) E lk_11_317 dX11_sellerCoinsAfter_39 h_m.1 rfl rfl (by decide) (by decide) ⟨Nat.le_refl _, Nat.le_refl _⟩ (Nat.le_of_ble_eq_true rfl) ?_
    obtain ⟨r2, hr2⟩ : ∃ y_ : Int32 × ow_I, y_ = M_coinsWith m (I1 (m + 1) 3) (tn n2) I1 := ⟨_, rfl⟩
    replace hk := lt_k (P := fun r : Int32 × ow_I => K (some (.int ((r).1))) (S, (r).2, V, z)) hr2 hk
    refine or_nmJ hr2 ?_
    try dsimp only at hk
    exact or_iret E F dX11_sellerCoinsAfter_42 (Nat.le_refl _) (Nat.le_refl _) hk
  · replace hk := ite_n (P := fun r : Int32 × ow_I => K (some (.int ((r).1))) (S, (r).2, V, z)) (bz_neg q14) hk
    refine or_iconst (v := nI 1) E rfl dX11_sellerCoinsAfter_17 ?_
    refine or_goto 22 E dX11_sellerCoinsAfter_18 rfl ?_
    refine or_iconst (v := nI 1) E rfl dX11_sellerCoinsAfter_22 ?_
    refine or_cV2r (cM_thrT h_m) E lk_11_166 dX11_sellerCoinsAfter_23 h_m.1 rfl rfl (by decide) (by decide) ⟨Nat.le_refl _, Nat.le_refl _⟩ (Nat.le_of_ble_eq_true rfl) ?_
    obtain ⟨I3, hI3⟩ : ∃ y_ : ow_I, y_ = ow_u I1 m 18 (nI 1) := ⟨_, rfl⟩
    replace hk := lt_k (P := fun r : Int32 × ow_I => K (some (.int ((r).1))) (S, (r).2, V, z)) hI3 hk
    refine or_nmI hI3 ?_
    refine or_if_eqZ 31 E dX11_sellerCoinsAfter_26 rfl (fun q26 => absurd q26 (by decide)) (fun q26 => ?_)
    refine or_iconst (v := nI 0) E rfl dX11_sellerCoinsAfter_29 ?_
    try dsimp only at hk
    exact or_iret E F dX11_sellerCoinsAfter_30 (Nat.le_refl _) (Nat.le_refl _) hk
