theorem fl_11_25 : ow_fl RX11 25 11 12 := ⟨_, rfl, by decide, ow_T_in 1647 (by decide +kernel) (by decide +kernel), ow_ok11⟩
theorem lk_11_214 : ow_lv RX11 214 yX11_fails cX11_fails 2 (some .boolean) 1 := ⟨ow_T_in 1777 (by decide +kernel) (by decide +kernel), ow_T_in 1779 (by decide +kernel) (by decide +kernel), ow_T_sel 56 (by decide +kernel) (by decide +kernel), ow_T_in 19 (by decide +kernel) (by decide +kernel), ow_T_in 1780 (by decide +kernel) (by decide +kernel), ⟨by decide +kernel, by decide +kernel, by decide +kernel⟩⟩
theorem lk_11_217 : ow_lv RX11 217 yX11_failsAtThis cX11_failsAtThis 4 (some .boolean) 3 := ⟨ow_T_in 1785 (by decide +kernel) (by decide +kernel), ow_T_in 1787 (by decide +kernel) (by decide +kernel), ow_T_sel 58 (by decide +kernel) (by decide +kernel), ow_T_in 19 (by decide +kernel) (by decide +kernel), ow_T_in 1788 (by decide +kernel) (by decide +kernel), ⟨by decide +kernel, by decide +kernel, by decide +kernel⟩⟩
theorem lk_11_220 : ow_lv RX11 220 yX11_failsAtEnd cX11_failsAtEnd 1 (some .boolean) 0 := ⟨ow_T_in 1793 (by decide +kernel) (by decide +kernel), ow_T_in 1795 (by decide +kernel) (by decide +kernel), ow_T_sel 60 (by decide +kernel) (by decide +kernel), ow_T_in 19 (by decide +kernel) (by decide +kernel), ow_T_in 1796 (by decide +kernel) (by decide +kernel), ⟨by decide +kernel, by decide +kernel, by decide +kernel⟩⟩
def M_failsAtThis (m : Nat) (p : Nat) (lo : Int32) (hi : Int32) (I : ow_I) : Bool × ow_I :=
  if I m 9 = nI 2 then if M_in (I m 11) lo hi I then lt (ow_u I (m + 4) p (I m 11)) (fun (I1 : ow_I) => (false, I1)) else lt (M_fails m (nI 2) I) (fun (r2 : Bool × ow_I) => (r2.1, r2.2)) else lt (M_fails m (nI 1) I) (fun (r3 : Bool × ow_I) => (r3.1, r3.2))
set_option maxRecDepth 100000 in
set_option maxHeartbeats 400000 in
theorem cM_failsAtThis {S : Nat → Option ow_Sh} {I : ow_I} {V : Nat → Nat → Value} {z : Nat} {m : Nat} {p : Nat} {lo : Int32} {hi : Int32} (h_m : md_S S m) (hp : p < 11) : ow_Cf yX11_failsAtThis cX11_failsAtThis 4 (some .boolean) 1 [.ref m, .int (nI p), .int lo, .int hi] (S, I, V, z) (some (.int (bi ((M_failsAtThis m p lo hi I).1)))) (S, (M_failsAtThis m p lo hi I).2, V, z) := by
  refine ow_Cf.of rfl (Nat.le_of_ble_eq_true rfl) (fun X K E F hk => ?_)
  have E : ow_E X RX11 cX11_failsAtThis 4 (ow_rm 1 0 0) := E
  refine or_lv [(0, .ref m), (1, .int (nI p)), (2, .int lo), (3, .int hi)] rfl ?_
  dsimp only [M_failsAtThis] at hk
  refine or_aload_n E rfl dX11_failsAtThis_0 ?_
  refine ot_getI E fl_11_196 dX11_failsAtThis_1 h_m.1 rfl ?_
  refine or_iconst (v := nI 2) E rfl dX11_failsAtThis_4 ?_
  refine or_icmp_eq 14 E dX11_failsAtThis_5 rfl (fun q5 => ?_) (fun q5 => ?_)
  · replace hk := ite_p (P := fun r : Bool × ow_I => K (some (.int (bi ((r).1)))) (S, (r).2, V, z)) q5 hk
    refine or_aload_n E rfl dX11_failsAtThis_14 ?_
    refine ot_getI E fl_11_183 dX11_failsAtThis_15 h_m.1 rfl ?_
    refine or_iload_n E rfl dX11_failsAtThis_18 ?_
    refine or_iload_n E rfl dX11_failsAtThis_19 ?_
    refine or_cS3r (cM_in   ) E lk_11_173 dX11_failsAtThis_20 (by decide) (by decide) ⟨Nat.le_refl _, Nat.le_refl _⟩ (Nat.le_of_ble_eq_true rfl) ?_
    refine or_if_neZ 32 E dX11_failsAtThis_23 rfl (fun q23 => ?_) (fun q23 => ?_)
    · replace hk := ite_p (P := fun r : Bool × ow_I => K (some (.int (bi ((r).1)))) (S, (r).2, V, z)) q23 hk
      refine or_aload_n E rfl dX11_failsAtThis_32 ?_
      refine ot_getC E fl_11_25 dX11_failsAtThis_33 h_m.1 rfl ?_
      refine or_iload_n E rfl dX11_failsAtThis_36 ?_
      refine or_aload_n E rfl dX11_failsAtThis_37 ?_
      refine ot_getI E fl_11_183 dX11_failsAtThis_38 h_m.1 rfl ?_
      refine ot_iast (j := p) E dX11_failsAtThis_41 h_m.2.2.2.2.1 rfl rfl (by omega) (Nat.le_of_ble_eq_true rfl) ?_
      obtain ⟨I1, hI1⟩ : ∃ y_ : ow_I, y_ = ow_u I (m + 4) p (I m 11) := ⟨_, rfl⟩
      replace hk := lt_k (P := fun r : Bool × ow_I => K (some (.int (bi ((r).1)))) (S, (r).2, V, z)) hI1 hk
      refine or_nmI hI1 ?_
      refine or_iconst (v := nI 0) E rfl dX11_failsAtThis_42 ?_
      try dsimp only at hk
      exact or_zret E F dX11_failsAtThis_43 (Nat.le_refl _) (Nat.le_refl _) (bi_nar false) hk
    · replace hk := ite_n (P := fun r : Bool × ow_I => K (some (.int (bi ((r).1)))) (S, (r).2, V, z)) (bz_neg q23) hk
      refine or_aload_n E rfl dX11_failsAtThis_26 ?_
      refine or_iconst (v := nI 2) E rfl dX11_failsAtThis_27 ?_
      refine or_cV1r (cM_fails  h_m ) E lk_11_214 dX11_failsAtThis_28 h_m.1 rfl rfl (by decide) (by decide) ⟨Nat.le_refl _, Nat.le_refl _⟩ (Nat.le_of_ble_eq_true rfl) ?_
      obtain ⟨r2, hr2⟩ : ∃ y_ : Bool × ow_I, y_ = M_fails m (nI 2) I := ⟨_, rfl⟩
      replace hk := lt_k (P := fun r : Bool × ow_I => K (some (.int (bi ((r).1)))) (S, (r).2, V, z)) hr2 hk
      refine or_nmZ hr2 ?_
      try dsimp only at hk
      exact or_zret E F dX11_failsAtThis_31 (Nat.le_refl _) (Nat.le_refl _) (bi_nar _) hk
  · replace hk := ite_n (P := fun r : Bool × ow_I => K (some (.int (bi ((r).1)))) (S, (r).2, V, z)) q5 hk
    refine or_aload_n E rfl dX11_failsAtThis_8 ?_
    refine or_iconst (v := nI 1) E rfl dX11_failsAtThis_9 ?_
    refine or_cV1r (cM_fails  h_m ) E lk_11_214 dX11_failsAtThis_10 h_m.1 rfl rfl (by decide) (by decide) ⟨Nat.le_refl _, Nat.le_refl _⟩ (Nat.le_of_ble_eq_true rfl) ?_
    obtain ⟨r3, hr3⟩ : ∃ y_ : Bool × ow_I, y_ = M_fails m (nI 1) I := ⟨_, rfl⟩
    replace hk := lt_k (P := fun r : Bool × ow_I => K (some (.int (bi ((r).1)))) (S, (r).2, V, z)) hr3 hk
    refine or_nmZ hr3 ?_
    try dsimp only at hk
    exact or_zret E F dX11_failsAtThis_13 (Nat.le_refl _) (Nat.le_refl _) (bi_nar _) hk
def M_failsAtNumber (m : Nat) (p : Nat) (lo : Int32) (hi : Int32) (I : ow_I) : Bool × ow_I :=
  lt (M_readToken m I) (fun (I1 : ow_I) => lt (M_failsAtThis m p lo hi I1) (fun (r2 : Bool × ow_I) => (r2.1, r2.2)))
set_option maxRecDepth 100000 in
set_option maxHeartbeats 400000 in
theorem cM_failsAtNumber {S : Nat → Option ow_Sh} {I : ow_I} {V : Nat → Nat → Value} {z : Nat} {m : Nat} {p : Nat} {lo : Int32} {hi : Int32} (h_m : md_S S m) (hp : p < 11) (ht : md_T m I) : ow_Cf yX11_failsAtNumber cX11_failsAtNumber 4 (some .boolean) 4 [.ref m, .int (nI p), .int lo, .int hi] (S, I, V, z) (some (.int (bi ((M_failsAtNumber m p lo hi I).1)))) (S, (M_failsAtNumber m p lo hi I).2, V, z) := by
  refine ow_Cf.of rfl (Nat.le_of_ble_eq_true rfl) (fun X K E F hk => ?_)
  have E : ow_E X RX11 cX11_failsAtNumber 4 (ow_rm 4 0 0) := E
  refine or_lv [(0, .ref m), (1, .int (nI p)), (2, .int lo), (3, .int hi)] rfl ?_
  dsimp only [M_failsAtNumber] at hk
  refine or_aload_n E rfl dX11_failsAtNumber_0 ?_
  refine or_cV0v (cM_readToken  h_m ht) E lk_11_211 dX11_failsAtNumber_1 h_m.1 rfl rfl (by decide) (by decide) ⟨Nat.le_refl _, Nat.le_refl _⟩ (Nat.le_of_ble_eq_true rfl) ?_
  obtain ⟨I1, hI1⟩ : ∃ y_ : ow_I, y_ = M_readToken m I := ⟨_, rfl⟩
  replace hk := lt_k (P := fun r : Bool × ow_I => K (some (.int (bi ((r).1)))) (S, (r).2, V, z)) hI1 hk
  refine or_nmI hI1 ?_
  refine or_aload_n E rfl dX11_failsAtNumber_4 ?_
  refine or_iload_n E rfl dX11_failsAtNumber_5 ?_
  refine or_iload_n E rfl dX11_failsAtNumber_6 ?_
  refine or_iload_n E rfl dX11_failsAtNumber_7 ?_
  refine or_cV3r (cM_failsAtThis  h_m (by subst hI1; exact hp)) E lk_11_217 dX11_failsAtNumber_8 h_m.1 rfl rfl (by decide) (by decide) ⟨Nat.le_refl _, Nat.le_refl _⟩ (Nat.le_of_ble_eq_true rfl) ?_
  obtain ⟨r2, hr2⟩ : ∃ y_ : Bool × ow_I, y_ = M_failsAtThis m p lo hi I1 := ⟨_, rfl⟩
  replace hk := lt_k (P := fun r : Bool × ow_I => K (some (.int (bi ((r).1)))) (S, (r).2, V, z)) hr2 hk
  refine or_nmZ hr2 ?_
  try dsimp only at hk
  exact or_zret E F dX11_failsAtNumber_11 (Nat.le_refl _) (Nat.le_refl _) (bi_nar _) hk
def M_failsAtEnd (m : Nat) (I : ow_I) : Bool × ow_I :=
  if I m 9 = nI 3 then lt (M_readToken m I) (fun (I1 : ow_I) => (false, I1)) else lt (M_fails m (nI 1) I) (fun (r2 : Bool × ow_I) => (r2.1, r2.2))
set_option maxRecDepth 100000 in
set_option maxHeartbeats 400000 in
theorem cM_failsAtEnd {S : Nat → Option ow_Sh} {I : ow_I} {V : Nat → Nat → Value} {z : Nat} {m : Nat} (h_m : md_S S m) (ht : md_T m I) : ow_Cf yX11_failsAtEnd cX11_failsAtEnd 1 (some .boolean) 4 [.ref m] (S, I, V, z) (some (.int (bi ((M_failsAtEnd m I).1)))) (S, (M_failsAtEnd m I).2, V, z) := by
  refine ow_Cf.of rfl (Nat.le_of_ble_eq_true rfl) (fun X K E F hk => ?_)
  have E : ow_E X RX11 cX11_failsAtEnd 1 (ow_rm 4 0 0) := E
  refine or_lv [(0, .ref m)] rfl ?_
  dsimp only [M_failsAtEnd] at hk
  refine or_aload_n E rfl dX11_failsAtEnd_0 ?_
  refine ot_getI E fl_11_196 dX11_failsAtEnd_1 h_m.1 rfl ?_
  refine or_iconst (v := nI 3) E rfl dX11_failsAtEnd_4 ?_
  refine or_icmp_eq 14 E dX11_failsAtEnd_5 rfl (fun q5 => ?_) (fun q5 => ?_)
  · replace hk := ite_p (P := fun r : Bool × ow_I => K (some (.int (bi ((r).1)))) (S, (r).2, V, z)) q5 hk
    refine or_aload_n E rfl dX11_failsAtEnd_14 ?_
    refine or_cV0v (cM_readToken  h_m ht) E lk_11_211 dX11_failsAtEnd_15 h_m.1 rfl rfl (by decide) (by decide) ⟨Nat.le_refl _, Nat.le_refl _⟩ (Nat.le_of_ble_eq_true rfl) ?_
    obtain ⟨I1, hI1⟩ : ∃ y_ : ow_I, y_ = M_readToken m I := ⟨_, rfl⟩
    replace hk := lt_k (P := fun r : Bool × ow_I => K (some (.int (bi ((r).1)))) (S, (r).2, V, z)) hI1 hk
    refine or_nmI hI1 ?_
    refine or_iconst (v := nI 0) E rfl dX11_failsAtEnd_18 ?_
    try dsimp only at hk
    exact or_zret E F dX11_failsAtEnd_19 (Nat.le_refl _) (Nat.le_refl _) (bi_nar false) hk
  · replace hk := ite_n (P := fun r : Bool × ow_I => K (some (.int (bi ((r).1)))) (S, (r).2, V, z)) q5 hk
    refine or_aload_n E rfl dX11_failsAtEnd_8 ?_
    refine or_iconst (v := nI 1) E rfl dX11_failsAtEnd_9 ?_
    refine or_cV1r (cM_fails  h_m ) E lk_11_214 dX11_failsAtEnd_10 h_m.1 rfl rfl (by decide) (by decide) ⟨Nat.le_refl _, Nat.le_refl _⟩ (Nat.le_of_ble_eq_true rfl) ?_
    obtain ⟨r2, hr2⟩ : ∃ y_ : Bool × ow_I, y_ = M_fails m (nI 1) I := ⟨_, rfl⟩
    replace hk := lt_k (P := fun r : Bool × ow_I => K (some (.int (bi ((r).1)))) (S, (r).2, V, z)) hr2 hk
    refine or_nmZ hr2 ?_
    try dsimp only at hk
    exact or_zret E F dX11_failsAtEnd_13 (Nat.le_refl _) (Nat.le_refl _) (bi_nar _) hk
def M_failsAtNext (m : Nat) (I : ow_I) : Bool × ow_I :=
  lt (M_readToken m I) (fun (I1 : ow_I) => lt (M_failsAtEnd m I1) (fun (r2 : Bool × ow_I) => (r2.1, r2.2)))
set_option maxRecDepth 100000 in
set_option maxHeartbeats 400000 in
theorem cM_failsAtNext {S : Nat → Option ow_Sh} {I : ow_I} {V : Nat → Nat → Value} {z : Nat} {m : Nat} (h_m : md_S S m) (ht : md_T m I) : ow_Cf yX11_failsAtNext cX11_failsAtNext 1 (some .boolean) 5 [.ref m] (S, I, V, z) (some (.int (bi ((M_failsAtNext m I).1)))) (S, (M_failsAtNext m I).2, V, z) := by
  refine ow_Cf.of rfl (Nat.le_of_ble_eq_true rfl) (fun X K E F hk => ?_)
  have E : ow_E X RX11 cX11_failsAtNext 1 (ow_rm 5 0 0) := E
  refine or_lv [(0, .ref m)] rfl ?_
  dsimp only [M_failsAtNext] at hk
  refine or_aload_n E rfl dX11_failsAtNext_0 ?_
  refine or_cV0v (cM_readToken  h_m ht) E lk_11_211 dX11_failsAtNext_1 h_m.1 rfl rfl (by decide) (by decide) ⟨Nat.le_refl _, Nat.le_refl _⟩ (Nat.le_of_ble_eq_true rfl) ?_
  obtain ⟨I1, hI1⟩ : ∃ y_ : ow_I, y_ = M_readToken m I := ⟨_, rfl⟩
  replace hk := lt_k (P := fun r : Bool × ow_I => K (some (.int (bi ((r).1)))) (S, (r).2, V, z)) hI1 hk
  refine or_nmI hI1 ?_
  refine or_aload_n E rfl dX11_failsAtNext_4 ?_
  refine or_cV0r (cM_failsAtEnd  h_m (by subst hI1; exact (W_readToken ht).1)) E lk_11_220 dX11_failsAtNext_5 h_m.1 rfl rfl (by decide) (by decide) ⟨Nat.le_refl _, Nat.le_refl _⟩ (Nat.le_of_ble_eq_true rfl) ?_
  obtain ⟨r2, hr2⟩ : ∃ y_ : Bool × ow_I, y_ = M_failsAtEnd m I1 := ⟨_, rfl⟩
  replace hk := lt_k (P := fun r : Bool × ow_I => K (some (.int (bi ((r).1)))) (S, (r).2, V, z)) hr2 hk
  refine or_nmZ hr2 ?_
  try dsimp only at hk
  exact or_zret E F dX11_failsAtNext_8 (Nat.le_refl _) (Nat.le_refl _) (bi_nar _) hk
def M_beginMarket_L3 (m : Nat) (a0 : Int32) (a1 : Int32) (a2 : Int32) (a3 : Int32) (a4 : Int32) : Nat → ow_I → Nat → ow_I
  | 0, I, _ => I
  | n + 1, I, i => if 370 ≤ i then lt (ow_u I (m + 1) 0 a0) (fun (I1 : ow_I) => lt (ow_u I1 (m + 1) 1 a1) (fun (I2 : ow_I) => lt (ow_u I2 (m + 1) 2 a2) (fun (I3 : ow_I) => lt (ow_u I3 (m + 1) 3 a3) (fun (I4 : ow_I) => lt (ow_u I4 (m + 1) 4 a4) (fun (I5 : ow_I) => lt (ow_u I5 (m + 1) 8 ((-1))) (fun (I6 : ow_I) => lt (ow_u I6 (m + 1) 10 ((-1))) (fun (I7 : ow_I) => I7))))))) else lt (ow_u I (m + 1) i (nI 0)) (fun (I8 : ow_I) => M_beginMarket_L3 m a0 a1 a2 a3 a4 n I8 (i + 1))
def M_beginMarket (m : Nat) (a0 : Int32) (a1 : Int32) (a2 : Int32) (a3 : Int32) (a4 : Int32) (I : ow_I) : ow_I :=
  M_beginMarket_L3 m a0 a1 a2 a3 a4 371 I 0
set_option maxRecDepth 100000 in
set_option maxHeartbeats 400000 in
theorem cM_beginMarket {S : Nat → Option ow_Sh} {I : ow_I} {V : Nat → Nat → Value} {z : Nat} {m : Nat} {a0 : Int32} {a1 : Int32} {a2 : Int32} {a3 : Int32} {a4 : Int32} (h_m : md_S S m)  : ow_Cf yX11_beginMarket cX11_beginMarket 7 none 0 [.ref m, .int a0, .int a1, .int a2, .int a3, .int a4] (S, I, V, z) none (S, M_beginMarket m a0 a1 a2 a3 a4 I, V, z) := by
  refine ow_Cf.of rfl (Nat.le_of_ble_eq_true rfl) (fun X K E F hk => ?_)
  have E : ow_E X RX11 cX11_beginMarket 7 (ow_rm 0 0 0) := E
  refine or_lv [(0, .ref m), (1, .int a0), (2, .int a1), (3, .int a2), (4, .int a3), (5, .int a4)] rfl ?_
  have L3 : ∀ (n : Nat) (I : ow_I) (i : Nat) (hi : i ≤ 370) (hm : 370 - i < n) (hk : K none (S, M_beginMarket_L3 m a0 a1 a2 a3 a4 n I i, V, z)), ow_W X 0 0 (S, I, V, z) 3 [(0, .ref m), (1, .int a0), (2, .int a1), (3, .int a2), (4, .int a3), (5, .int a4), (6, .int (nI i))] [] := by
    intro n
    induction n with
    | zero => intro I i hi hm; omega
    | succ n ih =>
      intro I i hi hm hk
      dsimp only [M_beginMarket_L3] at hk
      refine or_iload E rfl dX11_beginMarket_3 ?_
      refine or_sipush (v := nI 370) E rfl dX11_beginMarket_5 ?_
      refine or_icmp_geN 25 E dX11_beginMarket_8 rfl (by omega) (by omega) (fun q8 => ?_) (fun q8 => ?_)
      · replace hk := ite_p (P := fun r : ow_I => K none (S, r, V, z)) q8 hk
        refine or_aload_n E rfl dX11_beginMarket_25 ?_
        refine ot_getC E fl_11_7 dX11_beginMarket_26 h_m.1 rfl ?_
        refine or_iconst (v := nI 0) E rfl dX11_beginMarket_29 ?_
        refine or_iload_n E rfl dX11_beginMarket_30 ?_
        refine ot_iast (j := 0) E dX11_beginMarket_31 h_m.2.1 rfl rfl (by omega) (Nat.le_of_ble_eq_true rfl) ?_
        obtain ⟨I1, hI1⟩ : ∃ y_ : ow_I, y_ = ow_u I (m + 1) 0 a0 := ⟨_, rfl⟩
        replace hk := lt_k (P := fun r : ow_I => K none (S, r, V, z)) hI1 hk
        refine or_nmI hI1 ?_
        refine or_aload_n E rfl dX11_beginMarket_32 ?_
        refine ot_getC E fl_11_7 dX11_beginMarket_33 h_m.1 rfl ?_
        refine or_iconst (v := nI 1) E rfl dX11_beginMarket_36 ?_
        refine or_iload_n E rfl dX11_beginMarket_37 ?_
        refine ot_iast (j := 1) E dX11_beginMarket_38 h_m.2.1 rfl rfl (by omega) (Nat.le_of_ble_eq_true rfl) ?_
        obtain ⟨I2, hI2⟩ : ∃ y_ : ow_I, y_ = ow_u I1 (m + 1) 1 a1 := ⟨_, rfl⟩
        replace hk := lt_k (P := fun r : ow_I => K none (S, r, V, z)) hI2 hk
        refine or_nmI hI2 ?_
        refine or_aload_n E rfl dX11_beginMarket_39 ?_
        refine ot_getC E fl_11_7 dX11_beginMarket_40 h_m.1 rfl ?_
        refine or_iconst (v := nI 2) E rfl dX11_beginMarket_43 ?_
        refine or_iload_n E rfl dX11_beginMarket_44 ?_
        refine ot_iast (j := 2) E dX11_beginMarket_45 h_m.2.1 rfl rfl (by omega) (Nat.le_of_ble_eq_true rfl) ?_
        obtain ⟨I3, hI3⟩ : ∃ y_ : ow_I, y_ = ow_u I2 (m + 1) 2 a2 := ⟨_, rfl⟩
        replace hk := lt_k (P := fun r : ow_I => K none (S, r, V, z)) hI3 hk
        refine or_nmI hI3 ?_
        refine or_aload_n E rfl dX11_beginMarket_46 ?_
        refine ot_getC E fl_11_7 dX11_beginMarket_47 h_m.1 rfl ?_
        refine or_iconst (v := nI 3) E rfl dX11_beginMarket_50 ?_
        refine or_iload E rfl dX11_beginMarket_51 ?_
        refine ot_iast (j := 3) E dX11_beginMarket_53 h_m.2.1 rfl rfl (by omega) (Nat.le_of_ble_eq_true rfl) ?_
        obtain ⟨I4, hI4⟩ : ∃ y_ : ow_I, y_ = ow_u I3 (m + 1) 3 a3 := ⟨_, rfl⟩
        replace hk := lt_k (P := fun r : ow_I => K none (S, r, V, z)) hI4 hk
        refine or_nmI hI4 ?_
        refine or_aload_n E rfl dX11_beginMarket_54 ?_
        refine ot_getC E fl_11_7 dX11_beginMarket_55 h_m.1 rfl ?_
        refine or_iconst (v := nI 4) E rfl dX11_beginMarket_58 ?_
        refine or_iload E rfl dX11_beginMarket_59 ?_
        refine ot_iast (j := 4) E dX11_beginMarket_61 h_m.2.1 rfl rfl (by omega) (Nat.le_of_ble_eq_true rfl) ?_
        obtain ⟨I5, hI5⟩ : ∃ y_ : ow_I, y_ = ow_u I4 (m + 1) 4 a4 := ⟨_, rfl⟩
        replace hk := lt_k (P := fun r : ow_I => K none (S, r, V, z)) hI5 hk
        refine or_nmI hI5 ?_
        refine or_aload_n E rfl dX11_beginMarket_62 ?_
        refine ot_getC E fl_11_7 dX11_beginMarket_63 h_m.1 rfl ?_
        refine or_bipush (v := nI 8) E rfl dX11_beginMarket_66 ?_
        refine or_iconst (v := -1) E rfl dX11_beginMarket_68 ?_
        refine ot_iast (j := 8) E dX11_beginMarket_69 h_m.2.1 rfl rfl (by omega) (Nat.le_of_ble_eq_true rfl) ?_
        obtain ⟨I6, hI6⟩ : ∃ y_ : ow_I, y_ = ow_u I5 (m + 1) 8 ((-1)) := ⟨_, rfl⟩
        replace hk := lt_k (P := fun r : ow_I => K none (S, r, V, z)) hI6 hk
        refine or_nmI hI6 ?_
        refine or_aload_n E rfl dX11_beginMarket_70 ?_
        refine ot_getC E fl_11_7 dX11_beginMarket_71 h_m.1 rfl ?_
        refine or_bipush (v := nI 10) E rfl dX11_beginMarket_74 ?_
        refine or_iconst (v := -1) E rfl dX11_beginMarket_76 ?_
        refine ot_iast (j := 10) E dX11_beginMarket_77 h_m.2.1 rfl rfl (by omega) (Nat.le_of_ble_eq_true rfl) ?_
        obtain ⟨I7, hI7⟩ : ∃ y_ : ow_I, y_ = ow_u I6 (m + 1) 10 ((-1)) := ⟨_, rfl⟩
        replace hk := lt_k (P := fun r : ow_I => K none (S, r, V, z)) hI7 hk
        refine or_nmI hI7 ?_
        exact or_vret E F dX11_beginMarket_78 (Nat.le_refl _) (Nat.le_refl _) hk
      · replace hk := ite_n (P := fun r : ow_I => K none (S, r, V, z)) q8 hk
        refine or_aload_n E rfl dX11_beginMarket_11 ?_
        refine ot_getC E fl_11_7 dX11_beginMarket_12 h_m.1 rfl ?_
        refine or_iload E rfl dX11_beginMarket_15 ?_
        refine or_iconst (v := nI 0) E rfl dX11_beginMarket_17 ?_
        refine ot_iast (j := i) E dX11_beginMarket_18 h_m.2.1 rfl rfl (by omega) (Nat.le_of_ble_eq_true rfl) ?_
        obtain ⟨I8, hI8⟩ : ∃ y_ : ow_I, y_ = ow_u I (m + 1) i (nI 0) := ⟨_, rfl⟩
        replace hk := lt_k (P := fun r : ow_I => K none (S, r, V, z)) hI8 hk
        refine or_nmI hI8 ?_
        refine or_iincN (c := 1) E dX11_beginMarket_19 rfl rfl (by decide) ?_
        refine or_goto 3 E dX11_beginMarket_22 rfl ?_
        refine or_lv _ ?_ (ih _ _ (by subst hI8; omega) (by omega) hk)
        rfl
  dsimp only [M_beginMarket] at hk
  refine or_iconst (v := nI 0) E rfl dX11_beginMarket_0 ?_
  refine or_istore E dX11_beginMarket_1 (by decide) ?_
  refine or_lv _ ?_ (L3 371 _ _ (by omega) (by omega) hk)
  rfl
