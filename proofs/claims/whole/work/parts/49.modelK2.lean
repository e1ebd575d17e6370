def M_bestStep_L38 (m : Nat) (n2 : Int32) : Nat → ow_I → Int32 → Int32 → Nat → Int32 × ow_I
  | 0, I, _, _, _ => (default, I)
  | n + 1, I, b, t, s => if 50 < s then (b, I) else lt (M_coinsWith m (nI s) (tn n2) I) (fun (r2 : Int32 × ow_I) => if t < r2.1 then M_bestStep_L38 m n2 n r2.2 (nI s) r2.1 (s + 1) else M_bestStep_L38 m n2 n r2.2 b t (s + 1))
def M_bestStep (m : Nat) (n2 : Int32) (I : ow_I) : Int32 × ow_I :=
  lt (ow_u I m 18 (nI 0)) (fun (I1 : ow_I) => if M_in n2 (nI 0) (nI 500) I1 then M_bestStep_L38 m n2 51 I1 (nI 0) ((-1)) 1 else lt (ow_u I1 m 18 (nI 1)) (fun (I3 : ow_I) => (nI 0, I3)))
set_option maxRecDepth 100000 in
set_option maxHeartbeats 400000 in
theorem cM_bestStep {S : Nat → Option ow_Sh} {I : ow_I} {V : Nat → Nat → Value} {z : Nat} {m : Nat} {n2 : Int32} (h_m : md_S S m) (hv : md_V (I (m + 1))) : ow_Cf yX11_bestStep cX11_bestStep 6 (some .int) 9 [.ref m, .int n2] (S, I, V, z) (some (.int ((M_bestStep m n2 I).1))) (S, (M_bestStep m n2 I).2, V, z) := by
  refine ow_Cf.of rfl (Nat.le_of_ble_eq_true rfl) (fun X K E F hk => ?_)
  have E : ow_E X RX11 cX11_bestStep 6 (ow_rm 9 0 0) := E
  refine or_lv [(0, .ref m), (1, .int n2)] rfl ?_
  have L38 : ∀ (n : Nat) (I : ow_I) (b : Int32) (t : Int32) (s : Nat) (hv : md_V (I (m + 1))) (hM : 0 ≤ n2 ∧ tn n2 ≤ 500) (hi : s ≤ 51) (hm : 51 - s < n) (hk : K (some (.int ((M_bestStep_L38 m n2 n I b t s).1))) (S, (M_bestStep_L38 m n2 n I b t s).2, V, z)), ow_W X 0 0 (S, I, V, z) 38 [(0, .ref m), (1, .int n2), (2, .int b), (3, .int t), (4, .int (nI s))] [] := by
    intro n
    induction n with
    | zero => intro I b t s hv hM hi hm; omega
    | succ n ih =>
      intro I b t s hv hM hi hm hk
      dsimp only [M_bestStep_L38] at hk
      refine or_iload E rfl dX11_bestStep_38 ?_
      refine or_bipush (v := nI 50) E rfl dX11_bestStep_40 ?_
      refine or_icmp_gtN 75 E dX11_bestStep_42 rfl (by omega) (by omega) (fun q42 => ?_) (fun q42 => ?_)
      · replace hk := ite_p (P := fun r : Int32 × ow_I => K (some (.int ((r).1))) (S, (r).2, V, z)) q42 hk
        refine or_iload_n E rfl dX11_bestStep_75 ?_
        try dsimp only at hk
        exact or_iret E F dX11_bestStep_76 (Nat.le_refl _) (Nat.le_refl _) hk
      · replace hk := ite_n (P := fun r : Int32 × ow_I => K (some (.int ((r).1))) (S, (r).2, V, z)) q42 hk
        refine or_aload_n E rfl dX11_bestStep_45 ?_
        refine or_iload E rfl dX11_bestStep_46 ?_
        refine or_iload_n E rfl dX11_bestStep_48 ?_
        refine or_top (nI_tn hM.1).symm ?_
        refine or_cV2r (cM_coinsWith  h_m hv (by omega)) E lk_11_317 dX11_bestStep_49 h_m.1 rfl rfl (by decide) (by decide) ⟨Nat.le_refl _, Nat.le_refl _⟩ (Nat.le_of_ble_eq_true rfl) ?_
        obtain ⟨r2, hr2⟩ : ∃ y_ : Int32 × ow_I, y_ = M_coinsWith m (nI s) (tn n2) I := ⟨_, rfl⟩
        replace hk := lt_k (P := fun r : Int32 × ow_I => K (some (.int ((r).1))) (S, (r).2, V, z)) hr2 hk
        refine or_nmJ hr2 ?_
        refine or_istore E dX11_bestStep_52 (by decide) ?_
        refine or_iload E rfl dX11_bestStep_54 ?_
        refine or_iload_n E rfl dX11_bestStep_56 ?_
        refine or_icmp_gt 63 E dX11_bestStep_57 rfl (fun q57 => ?_) (fun q57 => ?_)
        · replace hk := ite_p (P := fun r : Int32 × ow_I => K (some (.int ((r).1))) (S, (r).2, V, z)) q57 hk
          refine or_iload E rfl dX11_bestStep_63 ?_
          refine or_istore_n E dX11_bestStep_65 (by decide) ?_
          refine or_iload E rfl dX11_bestStep_66 ?_
          refine or_istore_n E dX11_bestStep_68 (by decide) ?_
          refine or_iincN (c := 1) E dX11_bestStep_69 rfl rfl (by decide) ?_
          refine or_goto 38 E dX11_bestStep_72 rfl ?_
          refine or_lv _ ?_ (ih _ _ _ _ (by subst hr2; exact (V_coins hv)) (by subst hr2; exact hM) (by subst hr2; omega) (by omega) hk)
          rfl
        · replace hk := ite_n (P := fun r : Int32 × ow_I => K (some (.int ((r).1))) (S, (r).2, V, z)) q57 hk
          refine or_goto 69 E dX11_bestStep_60 rfl ?_
          refine or_iincN (c := 1) E dX11_bestStep_69 rfl rfl (by decide) ?_
          refine or_goto 38 E dX11_bestStep_72 rfl ?_
          refine or_lv _ ?_ (ih _ _ _ _ (by subst hr2; exact (V_coins hv)) (by subst hr2; exact hM) (by subst hr2; omega) (by omega) hk)
          rfl
  dsimp only [M_bestStep] at hk
  refine or_aload_n E rfl dX11_bestStep_0 ?_
  refine or_iconst (v := nI 0) E rfl dX11_bestStep_1 ?_
  refine ot_putI E fl_11_54 fw_11_18 dX11_bestStep_2 h_m.1 rfl ?_
  obtain ⟨I1, hI1⟩ : ∃ y_ : ow_I, y_ = ow_u I m 18 (nI 0) := ⟨_, rfl⟩
  replace hk := lt_k (P := fun r : Int32 × ow_I => K (some (.int ((r).1))) (S, (r).2, V, z)) hI1 hk
  refine or_nmI hI1 ?_
  refine or_aload_n E rfl dX11_bestStep_5 ?_
  refine or_iload_n E rfl dX11_bestStep_6 ?_
  refine or_iconst (v := nI 0) E rfl dX11_bestStep_7 ?_
  refine or_sipush (v := nI 500) E rfl dX11_bestStep_8 ?_
  refine or_cS3r (cM_in   ) E lk_11_173 dX11_bestStep_11 (by decide) (by decide) ⟨Nat.le_refl _, Nat.le_refl _⟩ (Nat.le_of_ble_eq_true rfl) ?_
  refine or_if_neZ 21 E dX11_bestStep_14 rfl (fun q14 => ?_) (fun q14 => ?_)
  · replace hk := ite_p (P := fun r : Int32 × ow_I => K (some (.int ((r).1))) (S, (r).2, V, z)) q14 hk
    refine or_iconst (v := nI 0) E rfl dX11_bestStep_21 ?_
    refine or_iconst (v := nI 1) E rfl dX11_bestStep_22 ?_
    refine or_cV2r (cM_thrF h_m) E lk_11_166 dX11_bestStep_23 h_m.1 rfl rfl (by decide) (by decide) ⟨Nat.le_refl _, Nat.le_refl _⟩ (Nat.le_of_ble_eq_true rfl) ?_
    refine or_if_eqZ 31 E dX11_bestStep_26 rfl (fun q26 => ?_) (fun q26 => absurd q26 (by decide))
    refine or_iconst (v := nI 0) E rfl dX11_bestStep_31 ?_
    refine or_istore_n E dX11_bestStep_32 (by decide) ?_
    refine or_iconst (v := -1) E rfl dX11_bestStep_33 ?_
    refine or_istore_n E dX11_bestStep_34 (by decide) ?_
    refine or_iconst (v := nI 1) E rfl dX11_bestStep_35 ?_
    refine or_istore E dX11_bestStep_36 (by decide) ?_
    refine or_lv _ ?_ (L38 51 _ _ _ _ (by subst hI1; rw [u_A]; exact hv) (by subst hI1; exact ⟨(i32_le (a := 0) (b := 500) (by decide) (by decide) (in_rng q14).1 (in_rng q14).2).1, (i32_le (a := 0) (b := 500) (by decide) (by decide) (in_rng q14).1 (in_rng q14).2).2.2⟩) (by decide) (by decide) hk)
    rfl
  · replace hk := ite_n (P := fun r : Int32 × ow_I => K (some (.int ((r).1))) (S, (r).2, V, z)) (bz_neg q14) hk
    refine or_iconst (v := nI 1) E rfl dX11_bestStep_17 ?_
    refine or_goto 22 E dX11_bestStep_18 rfl ?_
    refine or_iconst (v := nI 1) E rfl dX11_bestStep_22 ?_
    refine or_cV2r (cM_thrT h_m) E lk_11_166 dX11_bestStep_23 h_m.1 rfl rfl (by decide) (by decide) ⟨Nat.le_refl _, Nat.le_refl _⟩ (Nat.le_of_ble_eq_true rfl) ?_
    obtain ⟨I3, hI3⟩ : ∃ y_ : ow_I, y_ = ow_u I1 m 18 (nI 1) := ⟨_, rfl⟩
    replace hk := lt_k (P := fun r : Int32 × ow_I => K (some (.int ((r).1))) (S, (r).2, V, z)) hI3 hk
    refine or_nmI hI3 ?_
    refine or_if_eqZ 31 E dX11_bestStep_26 rfl (fun q26 => absurd q26 (by decide)) (fun q26 => ?_)
    refine or_iconst (v := nI 0) E rfl dX11_bestStep_29 ?_
    try dsimp only at hk
    exact or_iret E F dX11_bestStep_30 (Nat.le_refl _) (Nat.le_refl _) hk
def M_coinError_L23 (m : Nat) : Nat → ow_I → Int32 → Nat → Int32 × ow_I
  | 0, I, _, _ => (default, I)
  | n + 1, I, c, i => if tn (I (m + 1) 6) ≤ i then (I (m + 1) 15 - c, I) else M_coinError_L23 m n I (c + (M_of m i 0 I)) (i + 1)
def M_coinError (m : Nat) (I : ow_I) : Int32 × ow_I :=
  lt (ow_u I m 18 (nI 0)) (fun (I1 : ow_I) => M_coinError_L23 m 7 I1 (I1 (m + 1) 13 + (I1 (m + 1) 14)) 0)
set_option maxRecDepth 100000 in
set_option maxHeartbeats 400000 in
theorem cM_coinError {S : Nat → Option ow_Sh} {I : ow_I} {V : Nat → Nat → Value} {z : Nat} {m : Nat} (h_m : md_S S m) (hv : md_V (I (m + 1))) : ow_Cf yX11_coinError cX11_coinError 3 (some .int) 1 [.ref m] (S, I, V, z) (some (.int ((M_coinError m I).1))) (S, (M_coinError m I).2, V, z) := by
  refine ow_Cf.of rfl (Nat.le_of_ble_eq_true rfl) (fun X K E F hk => ?_)
  have E : ow_E X RX11 cX11_coinError 3 (ow_rm 1 0 0) := E
  refine or_lv [(0, .ref m)] rfl ?_
  have L23 : ∀ (n : Nat) (I : ow_I) (c : Int32) (i : Nat) (hv : md_V (I (m + 1))) (hi : i ≤ 6) (hm : 6 - i < n) (hk : K (some (.int ((M_coinError_L23 m n I c i).1))) (S, (M_coinError_L23 m n I c i).2, V, z)), ow_W X 0 0 (S, I, V, z) 23 [(0, .ref m), (1, .int c), (2, .int (nI i))] [] := by
    intro n
    induction n with
    | zero => intro I c i hv hi hm; omega
    | succ n ih =>
      intro I c i hv hi hm hk
      dsimp only [M_coinError_L23] at hk
      have g6 := hv.2.1
      refine or_iload_n E rfl dX11_coinError_23 ?_
      refine or_aload_n E rfl dX11_coinError_24 ?_
      refine ot_getC E fl_11_7 dX11_coinError_25 h_m.1 rfl ?_
      refine or_bipush (v := nI 6) E rfl dX11_coinError_28 ?_
      refine ot_iald (j := 6) E dX11_coinError_30 h_m.2.1 rfl rfl (by omega) (Nat.le_of_ble_eq_true rfl) ?_
      refine or_top (nI_tn hv.2.1.1).symm ?_
      refine or_icmp_geN 49 E dX11_coinError_31 rfl (by omega) (by omega) (fun q31 => ?_) (fun q31 => ?_)
      · replace hk := ite_p (P := fun r : Int32 × ow_I => K (some (.int ((r).1))) (S, (r).2, V, z)) q31 hk
        refine or_aload_n E rfl dX11_coinError_49 ?_
        refine ot_getC E fl_11_7 dX11_coinError_50 h_m.1 rfl ?_
        refine or_bipush (v := nI 15) E rfl dX11_coinError_53 ?_
        refine ot_iald (j := 15) E dX11_coinError_55 h_m.2.1 rfl rfl (by omega) (Nat.le_of_ble_eq_true rfl) ?_
        refine or_iload_n E rfl dX11_coinError_56 ?_
        refine or_isub E dX11_coinError_57 ?_
        try dsimp only at hk
        exact or_iret E F dX11_coinError_58 (Nat.le_refl _) (Nat.le_refl _) hk
      · replace hk := ite_n (P := fun r : Int32 × ow_I => K (some (.int ((r).1))) (S, (r).2, V, z)) q31 hk
        refine or_iload_n E rfl dX11_coinError_34 ?_
        refine or_aload_n E rfl dX11_coinError_35 ?_
        refine or_iload_n E rfl dX11_coinError_36 ?_
        refine or_iconst (v := nI 0) E rfl dX11_coinError_37 ?_
        refine or_cV2r (cM_of  h_m (by omega)) E lk_11_86 dX11_coinError_38 h_m.1 rfl rfl (by decide) (by decide) ⟨Nat.le_refl _, Nat.le_refl _⟩ (Nat.le_of_ble_eq_true rfl) ?_
        refine or_iadd E dX11_coinError_41 ?_
        refine or_istore_n E dX11_coinError_42 (by decide) ?_
        refine or_iincN (c := 1) E dX11_coinError_43 rfl rfl (by decide) ?_
        refine or_goto 23 E dX11_coinError_46 rfl ?_
        refine or_lv _ ?_ (ih _ _ _ hv (by omega) (by omega) hk)
        rfl
  dsimp only [M_coinError] at hk
  refine or_aload_n E rfl dX11_coinError_0 ?_
  refine or_iconst (v := nI 0) E rfl dX11_coinError_1 ?_
  refine ot_putI E fl_11_54 fw_11_18 dX11_coinError_2 h_m.1 rfl ?_
  obtain ⟨I1, hI1⟩ : ∃ y_ : ow_I, y_ = ow_u I m 18 (nI 0) := ⟨_, rfl⟩
  replace hk := lt_k (P := fun r : Int32 × ow_I => K (some (.int ((r).1))) (S, (r).2, V, z)) hI1 hk
  refine or_nmI hI1 ?_
  refine or_aload_n E rfl dX11_coinError_5 ?_
  refine ot_getC E fl_11_7 dX11_coinError_6 h_m.1 rfl ?_
  refine or_bipush (v := nI 13) E rfl dX11_coinError_9 ?_
  refine ot_iald (j := 13) E dX11_coinError_11 h_m.2.1 rfl rfl (by omega) (Nat.le_of_ble_eq_true rfl) ?_
  refine or_aload_n E rfl dX11_coinError_12 ?_
  refine ot_getC E fl_11_7 dX11_coinError_13 h_m.1 rfl ?_
  refine or_bipush (v := nI 14) E rfl dX11_coinError_16 ?_
  refine ot_iald (j := 14) E dX11_coinError_18 h_m.2.1 rfl rfl (by omega) (Nat.le_of_ble_eq_true rfl) ?_
  refine or_iadd E dX11_coinError_19 ?_
  refine or_istore_n E dX11_coinError_20 (by decide) ?_
  refine or_iconst (v := nI 0) E rfl dX11_coinError_21 ?_
  refine or_istore_n E dX11_coinError_22 (by decide) ?_
  refine or_lv _ ?_ (L23 7 _ _ _ (by subst hI1; rw [u_A]; exact hv) (by decide) (by decide) hk)
  rfl
def M_meanLength_L11 (m : Nat) : Nat → ow_I → Int32 → Int32 → Nat → UInt64 × ow_I
  | 0, I, _, _, _ => (default, I)
  | n + 1, I, e, s, i => if tn (I (m + 1) 7) ≤ i then if e = 0 then (FP.dconst0, I) else (FP.ddiv (FP.i2d s) (FP.i2d e), I) else M_meanLength_L11 m n I (e + (M_ofBarrel m i 0 I)) (s + (M_totalOf m i I)) (i + 1)
def M_meanLength (m : Nat) (I : ow_I) : UInt64 × ow_I :=
  lt (ow_u I m 18 (nI 0)) (fun (I1 : ow_I) => M_meanLength_L11 m 21 I1 (nI 0) (nI 0) 0)
set_option maxRecDepth 100000 in
set_option maxHeartbeats 400000 in
theorem cM_meanLength {S : Nat → Option ow_Sh} {I : ow_I} {V : Nat → Nat → Value} {z : Nat} {m : Nat} (h_m : md_S S m) (hv : md_V (I (m + 1))) : ow_Cf yX11_meanLength cX11_meanLength 4 (some .double) 3 [.ref m] (S, I, V, z) (some (.double ((M_meanLength m I).1))) (S, (M_meanLength m I).2, V, z) := by
  refine ow_Cf.of rfl (Nat.le_of_ble_eq_true rfl) (fun X K E F hk => ?_)
  have E : ow_E X RX11 cX11_meanLength 4 (ow_rm 3 0 0) := E
  refine or_lv [(0, .ref m)] rfl ?_
  have L11 : ∀ (n : Nat) (I : ow_I) (e : Int32) (s : Int32) (i : Nat) (hv : md_V (I (m + 1))) (hi : i ≤ 20) (hm : 20 - i < n) (hk : K (some (.double ((M_meanLength_L11 m n I e s i).1))) (S, (M_meanLength_L11 m n I e s i).2, V, z)), ow_W X 0 0 (S, I, V, z) 11 [(0, .ref m), (1, .int e), (2, .int s), (3, .int (nI i))] [] := by
    intro n
    induction n with
    | zero => intro I e s i hv hi hm; omega
    | succ n ih =>
      intro I e s i hv hi hm hk
      dsimp only [M_meanLength_L11] at hk
      have g7 := hv.2.2.1
      refine or_iload_n E rfl dX11_meanLength_11 ?_
      refine or_aload_n E rfl dX11_meanLength_12 ?_
      refine ot_getC E fl_11_7 dX11_meanLength_13 h_m.1 rfl ?_
      refine or_bipush (v := nI 7) E rfl dX11_meanLength_16 ?_
      refine ot_iald (j := 7) E dX11_meanLength_18 h_m.2.1 rfl rfl (by omega) (Nat.le_of_ble_eq_true rfl) ?_
      refine or_top (nI_tn hv.2.2.1.1).symm ?_
      refine or_icmp_geN 45 E dX11_meanLength_19 rfl (by omega) (by omega) (fun q19 => ?_) (fun q19 => ?_)
      · replace hk := ite_p (P := fun r : UInt64 × ow_I => K (some (.double ((r).1))) (S, (r).2, V, z)) q19 hk
        refine or_iload_n E rfl dX11_meanLength_45 ?_
        refine or_if_ne 51 E dX11_meanLength_46 rfl (fun q46 => ?_) (fun q46 => ?_)
        · replace hk := ite_n (P := fun r : UInt64 × ow_I => K (some (.double ((r).1))) (S, (r).2, V, z)) q46 hk
          refine or_iload_n E rfl dX11_meanLength_51 ?_
          refine or_i2d E dX11_meanLength_52 ?_
          refine or_iload_n E rfl dX11_meanLength_53 ?_
          refine or_i2d E dX11_meanLength_54 ?_
          refine or_ddiv E (fp_dd q46) dX11_meanLength_55 ?_
          try dsimp only at hk
          exact or_dret E F dX11_meanLength_56 (Nat.le_refl _) (Nat.le_refl _) hk
        · replace hk := ite_p (P := fun r : UInt64 × ow_I => K (some (.double ((r).1))) (S, (r).2, V, z)) q46 hk
          refine or_dconst0 E dX11_meanLength_49 ?_
          try dsimp only at hk
          exact or_dret E F dX11_meanLength_50 (Nat.le_refl _) (Nat.le_refl _) hk
      · replace hk := ite_n (P := fun r : UInt64 × ow_I => K (some (.double ((r).1))) (S, (r).2, V, z)) q19 hk
        refine or_iload_n E rfl dX11_meanLength_22 ?_
        refine or_aload_n E rfl dX11_meanLength_23 ?_
        refine or_iload_n E rfl dX11_meanLength_24 ?_
        refine or_iconst (v := nI 0) E rfl dX11_meanLength_25 ?_
        refine or_cV2r (cM_ofBarrel  h_m (by omega)) E lk_11_66 dX11_meanLength_26 h_m.1 rfl rfl (by decide) (by decide) ⟨Nat.le_refl _, Nat.le_refl _⟩ (Nat.le_of_ble_eq_true rfl) ?_
        refine or_iadd E dX11_meanLength_29 ?_
        refine or_istore_n E dX11_meanLength_30 (by decide) ?_
        refine or_iload_n E rfl dX11_meanLength_31 ?_
        refine or_aload_n E rfl dX11_meanLength_32 ?_
        refine or_iload_n E rfl dX11_meanLength_33 ?_
        refine or_cV1r (cM_totalOf  h_m (by omega) (hv.2.2.2.2.2.2.2.2.2 i (by omega)).1 (hv.2.2.2.2.2.2.2.2.2 i (by omega)).2.2) E lk_11_89 dX11_meanLength_34 h_m.1 rfl rfl (by decide) (by decide) ⟨Nat.le_refl _, Nat.le_refl _⟩ (Nat.le_of_ble_eq_true rfl) ?_
        refine or_iadd E dX11_meanLength_37 ?_
        refine or_istore_n E dX11_meanLength_38 (by decide) ?_
        refine or_iincN (c := 1) E dX11_meanLength_39 rfl rfl (by decide) ?_
        refine or_goto 11 E dX11_meanLength_42 rfl ?_
        refine or_lv _ ?_ (ih _ _ _ _ hv (by omega) (by omega) hk)
        rfl
  dsimp only [M_meanLength] at hk
  refine or_aload_n E rfl dX11_meanLength_0 ?_
  refine or_iconst (v := nI 0) E rfl dX11_meanLength_1 ?_
  refine ot_putI E fl_11_54 fw_11_18 dX11_meanLength_2 h_m.1 rfl ?_
  obtain ⟨I1, hI1⟩ : ∃ y_ : ow_I, y_ = ow_u I m 18 (nI 0) := ⟨_, rfl⟩
  replace hk := lt_k (P := fun r : UInt64 × ow_I => K (some (.double ((r).1))) (S, (r).2, V, z)) hI1 hk
  refine or_nmI hI1 ?_
  refine or_iconst (v := nI 0) E rfl dX11_meanLength_5 ?_
  refine or_istore_n E dX11_meanLength_6 (by decide) ?_
  refine or_iconst (v := nI 0) E rfl dX11_meanLength_7 ?_
  refine or_istore_n E dX11_meanLength_8 (by decide) ?_
  refine or_iconst (v := nI 0) E rfl dX11_meanLength_9 ?_
  refine or_istore_n E dX11_meanLength_10 (by decide) ?_
  refine or_lv _ ?_ (L11 21 _ _ _ _ (by subst hI1; rw [u_A]; exact hv) (by decide) (by decide) hk)
  rfl
def M_soldShare (m : Nat) (I : ow_I) : UInt32 × ow_I :=
  lt (ow_u I m 18 (nI 0)) (fun (I1 : ow_I) => if I1 (m + 1) 7 = 0 then (FP.fconst0, I1) else (FP.fdiv (FP.i2f (M_countState m (nI 2) I1)) (FP.i2f (I1 (m + 1) 7)), I1))
set_option maxRecDepth 100000 in
set_option maxHeartbeats 400000 in
theorem cM_soldShare {S : Nat → Option ow_Sh} {I : ow_I} {V : Nat → Nat → Value} {z : Nat} {m : Nat} (h_m : md_S S m) (hv : md_V (I (m + 1))) : ow_Cf yX11_soldShare cX11_soldShare 1 (some .float) 2 [.ref m] (S, I, V, z) (some (.float ((M_soldShare m I).1))) (S, (M_soldShare m I).2, V, z) := by
  refine ow_Cf.of rfl (Nat.le_of_ble_eq_true rfl) (fun X K E F hk => ?_)
  have E : ow_E X RX11 cX11_soldShare 1 (ow_rm 2 0 0) := E
  refine or_lv [(0, .ref m)] rfl ?_
  dsimp only [M_soldShare] at hk
  refine or_aload_n E rfl dX11_soldShare_0 ?_
  refine or_iconst (v := nI 0) E rfl dX11_soldShare_1 ?_
  refine ot_putI E fl_11_54 fw_11_18 dX11_soldShare_2 h_m.1 rfl ?_
  obtain ⟨I1, hI1⟩ : ∃ y_ : ow_I, y_ = ow_u I m 18 (nI 0) := ⟨_, rfl⟩
  replace hk := lt_k (P := fun r : UInt32 × ow_I => K (some (.float ((r).1))) (S, (r).2, V, z)) hI1 hk
  refine or_nmI hI1 ?_
  refine or_aload_n E rfl dX11_soldShare_5 ?_
  refine ot_getC E fl_11_7 dX11_soldShare_6 h_m.1 rfl ?_
  refine or_bipush (v := nI 7) E rfl dX11_soldShare_9 ?_
  refine ot_iald (j := 7) E dX11_soldShare_11 h_m.2.1 rfl rfl (by omega) (Nat.le_of_ble_eq_true rfl) ?_
  refine or_if_ne 17 E dX11_soldShare_12 rfl (fun q12 => ?_) (fun q12 => ?_)
  · replace hk := ite_n (P := fun r : UInt32 × ow_I => K (some (.float ((r).1))) (S, (r).2, V, z)) q12 hk
    refine or_aload_n E rfl dX11_soldShare_17 ?_
    refine or_iconst (v := nI 2) E rfl dX11_soldShare_18 ?_
    refine or_cV1r (cM_countState  h_m (by subst hI1; rw [u_A]; exact hv.2.2.1.1) (by subst hI1; rw [u_A]; exact hv.2.2.1.2)) E lk_11_150 dX11_soldShare_19 h_m.1 rfl rfl (by decide) (by decide) ⟨Nat.le_refl _, Nat.le_refl _⟩ (Nat.le_of_ble_eq_true rfl) ?_
    refine or_i2f E dX11_soldShare_22 ?_
    refine or_aload_n E rfl dX11_soldShare_23 ?_
    refine ot_getC E fl_11_7 dX11_soldShare_24 h_m.1 rfl ?_
    refine or_bipush (v := nI 7) E rfl dX11_soldShare_27 ?_
    refine ot_iald (j := 7) E dX11_soldShare_29 h_m.2.1 rfl rfl (by omega) (Nat.le_of_ble_eq_true rfl) ?_
    refine or_i2f E dX11_soldShare_30 ?_
    refine or_fdiv E (by subst hI1; exact (fp_ff q12)) dX11_soldShare_31 ?_
    try dsimp only at hk
    exact or_fret E F dX11_soldShare_32 (Nat.le_refl _) (Nat.le_refl _) hk
  · replace hk := ite_p (P := fun r : UInt32 × ow_I => K (some (.float ((r).1))) (S, (r).2, V, z)) q12 hk
    refine or_fconst0 E dX11_soldShare_15 ?_
    try dsimp only at hk
    exact or_fret E F dX11_soldShare_16 (Nat.le_refl _) (Nat.le_refl _) hk
