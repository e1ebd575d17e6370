theorem B20 {A : Nat → Int32} (hv : md_V A) (h : ¬ A 7 = nI 20) : tn (A 7) < 20 := by
  have := tn_ne hv.2.2.1.1 h
  have := hv.2.2.1.2
  omega
theorem cS7 {m b e : Nat} {I : ow_I} (hv : md_V (I (m + 1))) (h : M_canSplit m b e I = true) : tn (I (m + 1) 7) < 20 := by
  have := (lt_tn (cS h).2.2 hv.2.2.1.1).2
  rw [tn_nI (by decide)] at this
  exact this
theorem lk_11_268 : ow_lv RX11 268 yX11_isBarrel cX11_isBarrel 2 (some .boolean) 1 := ⟨ow_T_in 1881 (by decide +kernel) (by decide +kernel), ow_T_in 1883 (by decide +kernel) (by decide +kernel), ow_T_sel 81 (by decide +kernel) (by decide +kernel), ow_T_in 19 (by decide +kernel) (by decide +kernel), ow_T_in 1884 (by decide +kernel) (by decide +kernel), ⟨by decide +kernel, by decide +kernel, by decide +kernel⟩⟩
theorem lk_11_271 : ow_lv RX11 271 yX11_canSplit cX11_canSplit 3 (some .boolean) 2 := ⟨ow_T_in 1885 (by decide +kernel) (by decide +kernel), ow_T_in 1887 (by decide +kernel) (by decide +kernel), ow_T_sel 82 (by decide +kernel) (by decide +kernel), ow_T_in 19 (by decide +kernel) (by decide +kernel), ow_T_in 1888 (by decide +kernel) (by decide +kernel), ⟨by decide +kernel, by decide +kernel, by decide +kernel⟩⟩
theorem lk_11_275 : ow_lv RX11 275 yX11_splitNow cX11_splitNow 8 (some .int) 2 := ⟨ow_T_in 1893 (by decide +kernel) (by decide +kernel), ow_T_in 1895 (by decide +kernel) (by decide +kernel), ow_T_sel 84 (by decide +kernel) (by decide +kernel), ow_T_in 19 (by decide +kernel) (by decide +kernel), ow_T_in 1896 (by decide +kernel) (by decide +kernel), ⟨by decide +kernel, by decide +kernel, by decide +kernel⟩⟩
theorem lk_11_278 : ow_lv RX11 278 yX11_withdrawNow cX11_withdrawNow 2 (some .int) 1 := ⟨ow_T_in 1908 (by decide +kernel) (by decide +kernel), ow_T_in 1910 (by decide +kernel) (by decide +kernel), ow_T_sel 87 (by decide +kernel) (by decide +kernel), ow_T_in 19 (by decide +kernel) (by decide +kernel), ow_T_in 1911 (by decide +kernel) (by decide +kernel), ⟨by decide +kernel, by decide +kernel, by decide +kernel⟩⟩
theorem lk_11_281 : ow_lv RX11 281 yX11_runBarrel cX11_runBarrel 4 (some .boolean) 1 := ⟨ow_T_in 1841 (by decide +kernel) (by decide +kernel), ow_T_in 1843 (by decide +kernel) (by decide +kernel), ow_T_sel 71 (by decide +kernel) (by decide +kernel), ow_T_in 19 (by decide +kernel) (by decide +kernel), ow_T_in 1844 (by decide +kernel) (by decide +kernel), ⟨by decide +kernel, by decide +kernel, by decide +kernel⟩⟩
theorem lk_11_284 : ow_lv RX11 284 yX11_runNod cX11_runNod 2 (some .boolean) 1 := ⟨ow_T_in 1845 (by decide +kernel) (by decide +kernel), ow_T_in 1847 (by decide +kernel) (by decide +kernel), ow_T_sel 72 (by decide +kernel) (by decide +kernel), ow_T_in 19 (by decide +kernel) (by decide +kernel), ow_T_in 1848 (by decide +kernel) (by decide +kernel), ⟨by decide +kernel, by decide +kernel, by decide +kernel⟩⟩
theorem lk_11_287 : ow_lv RX11 287 yX11_runSplit cX11_runSplit 3 (some .boolean) 2 := ⟨ow_T_in 1877 (by decide +kernel) (by decide +kernel), ow_T_in 1879 (by decide +kernel) (by decide +kernel), ow_T_sel 80 (by decide +kernel) (by decide +kernel), ow_T_in 19 (by decide +kernel) (by decide +kernel), ow_T_in 1880 (by decide +kernel) (by decide +kernel), ⟨by decide +kernel, by decide +kernel, by decide +kernel⟩⟩
theorem lk_11_290 : ow_lv RX11 290 yX11_runWithdraw cX11_runWithdraw 2 (some .boolean) 1 := ⟨ow_T_in 1904 (by decide +kernel) (by decide +kernel), ow_T_in 1906 (by decide +kernel) (by decide +kernel), ow_T_sel 86 (by decide +kernel) (by decide +kernel), ow_T_in 19 (by decide +kernel) (by decide +kernel), ow_T_in 1907 (by decide +kernel) (by decide +kernel), ⟨by decide +kernel, by decide +kernel, by decide +kernel⟩⟩
theorem lk_11_293 : ow_lv RX11 293 yX11_fundNow cX11_fundNow 5 (some .int) 2 := ⟨ow_T_in 1916 (by decide +kernel) (by decide +kernel), ow_T_in 1918 (by decide +kernel) (by decide +kernel), ow_T_sel 89 (by decide +kernel) (by decide +kernel), ow_T_in 19 (by decide +kernel) (by decide +kernel), ow_T_in 1919 (by decide +kernel) (by decide +kernel), ⟨by decide +kernel, by decide +kernel, by decide +kernel⟩⟩
theorem lk_11_296 : ow_lv RX11 296 yX11_passAll cX11_passAll 4 (some .int) 1 := ⟨ow_T_in 1921 (by decide +kernel) (by decide +kernel), ow_T_in 1923 (by decide +kernel) (by decide +kernel), ow_T_sel 90 (by decide +kernel) (by decide +kernel), ow_T_in 19 (by decide +kernel) (by decide +kernel), ow_T_in 1924 (by decide +kernel) (by decide +kernel), ⟨by decide +kernel, by decide +kernel, by decide +kernel⟩⟩
def M_runBarrel_L29 (m : Nat) (a : Nat) : Nat → ow_I → Nat → Nat → Bool × ow_I
  | 0, I, _, _ => (default, I)
  | n + 1, I, b, i => if tn (I (m + 5) (a + 1)) ≤ i then (true, I) else lt (M_addEel m b (I (m + 5) (a + 2 + i)) I) (fun (I2 : ow_I) => M_runBarrel_L29 m a n I2 b (i + 1))
def M_runBarrel (m : Nat) (a : Nat) (I : ow_I) : Bool × ow_I :=
  if I (m + 1) 7 = nI 20 then (false, I) else lt (M_newBarrel m (I (m + 5) (a + 2)) I) (fun (r1 : Nat × ow_I) => M_runBarrel_L29 m a 11 r1.2 r1.1 1)
set_option maxRecDepth 100000 in
set_option maxHeartbeats 400000 in
theorem cM_runBarrel {S : Nat → Option ow_Sh} {I : ow_I} {V : Nat → Nat → Value} {z : Nat} {m : Nat} {a : Nat} (h_m : md_S S m) (ha : a ≤ 247) (hv : md_V (I (m + 1))) (hn1 : 0 ≤ I (m + 5) (a + 1)) (hn2 : tn (I (m + 5) (a + 1)) ≤ 10) : ow_Cf yX11_runBarrel cX11_runBarrel 4 (some .boolean) 3 [.ref m, .int (nI a)] (S, I, V, z) (some (.int (bi ((M_runBarrel m a I).1)))) (S, (M_runBarrel m a I).2, V, z) := by
  refine ow_Cf.of rfl (Nat.le_of_ble_eq_true rfl) (fun X K E F hk => ?_)
  have E : ow_E X RX11 cX11_runBarrel 4 (ow_rm 3 0 0) := E
  refine or_lv [(0, .ref m), (1, .int (nI a))] rfl ?_
  have L29 : ∀ (n : Nat) (I : ow_I) (b : Nat) (i : Nat) (hb : b < 20) (hE : I (m + 1) (66 + 15 * b) = nI (i - 1)) (hn1 : 0 ≤ I (m + 5) (a + 1)) (hn2 : tn (I (m + 5) (a + 1)) ≤ 10) (hi : 1 ≤ i) (hi2 : i ≤ 10) (hm : 10 - i < n) (hk : K (some (.int (bi ((M_runBarrel_L29 m a n I b i).1)))) (S, (M_runBarrel_L29 m a n I b i).2, V, z)), ow_W X 0 0 (S, I, V, z) 29 [(0, .ref m), (1, .int (nI a)), (2, .int (nI b)), (3, .int (nI i))] [] := by
    intro n
    induction n with
    | zero => intro I b i hb hE hn1 hn2 hi hi2 hm; omega
    | succ n ih =>
      intro I b i hb hE hn1 hn2 hi hi2 hm hk
      dsimp only [M_runBarrel_L29] at hk
      refine or_iload_n E rfl dX11_runBarrel_29 ?_
      refine or_aload_n E rfl dX11_runBarrel_30 ?_
      refine ot_getC E fl_11_28 dX11_runBarrel_31 h_m.1 rfl ?_
      refine or_iload_n E rfl dX11_runBarrel_34 ?_
      refine or_iconst (v := nI 1) E rfl dX11_runBarrel_35 ?_
      refine or_iaddN E dX11_runBarrel_36 ?_
      refine ot_iald (j := a + 1) E dX11_runBarrel_37 h_m.2.2.2.2.2.1 rfl rfl (by omega) (Nat.le_of_ble_eq_true rfl) ?_
      refine or_top (nI_tn hn1).symm ?_
      refine or_icmp_geN 62 E dX11_runBarrel_38 rfl (by omega) (by omega) (fun q38 => ?_) (fun q38 => ?_)
      · replace hk := ite_p (P := fun r : Bool × ow_I => K (some (.int (bi ((r).1)))) (S, (r).2, V, z)) q38 hk
        refine or_iconst (v := nI 1) E rfl dX11_runBarrel_62 ?_
        try dsimp only at hk
        exact or_zret E F dX11_runBarrel_63 (Nat.le_refl _) (Nat.le_refl _) (bi_nar true) hk
      · replace hk := ite_n (P := fun r : Bool × ow_I => K (some (.int (bi ((r).1)))) (S, (r).2, V, z)) q38 hk
        refine or_aload_n E rfl dX11_runBarrel_41 ?_
        refine or_iload_n E rfl dX11_runBarrel_42 ?_
        refine or_aload_n E rfl dX11_runBarrel_43 ?_
        refine ot_getC E fl_11_28 dX11_runBarrel_44 h_m.1 rfl ?_
        refine or_iload_n E rfl dX11_runBarrel_47 ?_
        refine or_iconst (v := nI 2) E rfl dX11_runBarrel_48 ?_
        refine or_iaddN E dX11_runBarrel_49 ?_
        refine or_iload_n E rfl dX11_runBarrel_50 ?_
        refine or_iaddN E dX11_runBarrel_51 ?_
        refine ot_iald (j := a + 2 + i) E dX11_runBarrel_52 h_m.2.2.2.2.2.1 rfl rfl (by omega) (Nat.le_of_ble_eq_true rfl) ?_
        refine or_cV2v (cM_addEel  h_m hb (by show 0 ≤ I (m + 1) (66 + 15 * b); rw [hE]; exact nI_ge0 (by omega)) (by show tn (I (m + 1) (66 + 15 * b)) < 9; rw [hE, tn_nI (by omega)]; omega)) E lk_11_50 dX11_runBarrel_53 h_m.1 rfl rfl (by decide) (by decide) ⟨Nat.le_refl _, Nat.le_refl _⟩ (Nat.le_of_ble_eq_true rfl) ?_
        obtain ⟨I2, hI2⟩ : ∃ y_ : ow_I, y_ = M_addEel m b (I (m + 5) (a + 2 + i)) I := ⟨_, rfl⟩
        replace hk := lt_k (P := fun r : Bool × ow_I => K (some (.int (bi ((r).1)))) (S, (r).2, V, z)) hI2 hk
        refine or_nmI hI2 ?_
        refine or_iincN (c := 1) E dX11_runBarrel_56 rfl rfl (by decide) ?_
        refine or_goto 29 E dX11_runBarrel_59 rfl ?_
        refine or_lv _ ?_ (ih _ _ _ (by subst hI2; exact hb) (by subst hI2; have := ae_0 (x := I (m + 5) (a + 2 + i)) hE (by omega); rw [show i - 1 + 1 = i + 1 - 1 by omega] at this; exact this) (by subst hI2; rw [rr_addEel (by omega)]; exact hn1) (by subst hI2; rw [rr_addEel (by omega)]; exact hn2) (by subst hI2; omega) (by subst hI2; omega) (by omega) hk)
        rfl
  dsimp only [M_runBarrel] at hk
  refine or_aload_n E rfl dX11_runBarrel_0 ?_
  refine ot_getC E fl_11_7 dX11_runBarrel_1 h_m.1 rfl ?_
  refine or_bipush (v := nI 7) E rfl dX11_runBarrel_4 ?_
  refine ot_iald (j := 7) E dX11_runBarrel_6 h_m.2.1 rfl rfl (by omega) (Nat.le_of_ble_eq_true rfl) ?_
  refine or_bipush (v := nI 20) E rfl dX11_runBarrel_7 ?_
  refine or_icmp_ne 14 E dX11_runBarrel_9 rfl (fun q9 => ?_) (fun q9 => ?_)
  · replace hk := ite_n (P := fun r : Bool × ow_I => K (some (.int (bi ((r).1)))) (S, (r).2, V, z)) q9 hk
    refine or_aload_n E rfl dX11_runBarrel_14 ?_
    refine or_aload_n E rfl dX11_runBarrel_15 ?_
    refine ot_getC E fl_11_28 dX11_runBarrel_16 h_m.1 rfl ?_
    refine or_iload_n E rfl dX11_runBarrel_19 ?_
    refine or_iconst (v := nI 2) E rfl dX11_runBarrel_20 ?_
    refine or_iaddN E dX11_runBarrel_21 ?_
    refine ot_iald (j := a + 2) E dX11_runBarrel_22 h_m.2.2.2.2.2.1 rfl rfl (by omega) (Nat.le_of_ble_eq_true rfl) ?_
    refine or_cV1r (cM_newBarrel  h_m hv.2.2.1.1 (B20 hv q9) hv.2.2.2.2.2.1.1 (mdV_qlt hv (B20 hv q9))) E lk_11_46 dX11_runBarrel_23 h_m.1 rfl rfl (by decide) (by decide) ⟨Nat.le_refl _, Nat.le_refl _⟩ (Nat.le_of_ble_eq_true rfl) ?_
    obtain ⟨r1, hr1⟩ : ∃ y_ : Nat × ow_I, y_ = M_newBarrel m (I (m + 5) (a + 2)) I := ⟨_, rfl⟩
    replace hk := lt_k (P := fun r : Bool × ow_I => K (some (.int (bi ((r).1)))) (S, (r).2, V, z)) hr1 hk
    refine or_nmN hr1 ?_
    refine or_istore_n E dX11_runBarrel_26 (by decide) ?_
    refine or_iconst (v := nI 1) E rfl dX11_runBarrel_27 ?_
    refine or_istore_n E dX11_runBarrel_28 (by decide) ?_
    refine or_lv _ ?_ (L29 11 _ _ _ (by subst hr1; rw [rdNB1]; exact B20 hv q9) (by subst hr1; rw [rdNB1]; exact nb_0 (B20 hv q9) (mdV_qlt hv (B20 hv q9))) (by subst hr1; rw [rr_newBarrel (by omega)]; exact hn1) (by subst hr1; rw [rr_newBarrel (by omega)]; exact hn2) (by decide) (by decide) (by decide) hk)
    rfl
  · replace hk := ite_p (P := fun r : Bool × ow_I => K (some (.int (bi ((r).1)))) (S, (r).2, V, z)) q9 hk
    refine or_iconst (v := nI 0) E rfl dX11_runBarrel_12 ?_
    try dsimp only at hk
    exact or_zret E F dX11_runBarrel_13 (Nat.le_refl _) (Nat.le_refl _) (bi_nar false) hk
def M_runNod (m : Nat) (b : Nat) (I : ow_I) : Bool × ow_I :=
  if M_reasonAgainst m b I ≤ 0 then lt (M_nodNow m b I) (fun (r1 : Int32 × ow_I) => (true, r1.2)) else (false, I)
set_option maxRecDepth 100000 in
set_option maxHeartbeats 400000 in
theorem cM_runNod {S : Nat → Option ow_Sh} {I : ow_I} {V : Nat → Nat → Value} {z : Nat} {m : Nat} {b : Nat} (h_m : md_S S m) (hv : md_V (I (m + 1))) (hb : b < tn (I (m + 1) 6)) : ow_Cf yX11_runNod cX11_runNod 2 (some .boolean) 3 [.ref m, .int (nI b)] (S, I, V, z) (some (.int (bi ((M_runNod m b I).1)))) (S, (M_runNod m b I).2, V, z) := by
  refine ow_Cf.of rfl (Nat.le_of_ble_eq_true rfl) (fun X K E F hk => ?_)
  have E : ow_E X RX11 cX11_runNod 2 (ow_rm 3 0 0) := E
  refine or_lv [(0, .ref m), (1, .int (nI b))] rfl ?_
  dsimp only [M_runNod] at hk
  refine or_aload_n E rfl dX11_runNod_0 ?_
  refine or_iload_n E rfl dX11_runNod_1 ?_
  refine or_cV1r (cM_reasonAgainst  h_m (by have := hv.2.1; omega) hv.1 (mdV_8' hv)) E lk_11_116 dX11_runNod_2 h_m.1 rfl rfl (by decide) (by decide) ⟨Nat.le_refl _, Nat.le_refl _⟩ (Nat.le_of_ble_eq_true rfl) ?_
  refine or_if_le 10 E dX11_runNod_5 rfl (fun q5 => ?_) (fun q5 => ?_)
  · replace hk := ite_p (P := fun r : Bool × ow_I => K (some (.int (bi ((r).1)))) (S, (r).2, V, z)) q5 hk
    refine or_aload_n E rfl dX11_runNod_10 ?_
    refine or_iload_n E rfl dX11_runNod_11 ?_
    refine or_cV1r (cM_nodNow  h_m (by have := hv.2.1; omega) (fun _ => ⟨RA_8 q5, mdV_8' hv⟩)) E lk_11_135 dX11_runNod_12 h_m.1 rfl rfl (by decide) (by decide) ⟨Nat.le_refl _, Nat.le_refl _⟩ (Nat.le_of_ble_eq_true rfl) ?_
    obtain ⟨r1, hr1⟩ : ∃ y_ : Int32 × ow_I, y_ = M_nodNow m b I := ⟨_, rfl⟩
    replace hk := lt_k (P := fun r : Bool × ow_I => K (some (.int (bi ((r).1)))) (S, (r).2, V, z)) hr1 hk
    refine or_nmJ hr1 ?_
    refine or_pop E rfl dX11_runNod_15 ?_
    refine or_iconst (v := nI 1) E rfl dX11_runNod_16 ?_
    try dsimp only at hk
    exact or_zret E F dX11_runNod_17 (Nat.le_refl _) (Nat.le_refl _) (bi_nar true) hk
  · replace hk := ite_n (P := fun r : Bool × ow_I => K (some (.int (bi ((r).1)))) (S, (r).2, V, z)) q5 hk
    refine or_iconst (v := nI 0) E rfl dX11_runNod_8 ?_
    try dsimp only at hk
    exact or_zret E F dX11_runNod_9 (Nat.le_refl _) (Nat.le_refl _) (bi_nar false) hk
def M_runSplit (m : Nat) (b : Int32) (e : Nat) (I : ow_I) : Bool × ow_I :=
  if M_isBarrel m b I then if M_canSplit m (tn b) e I then lt (M_splitNow m (tn b) e I) (fun (r1 : Nat × ow_I) => (true, r1.2)) else (false, I) else (false, I)
set_option maxRecDepth 100000 in
set_option maxHeartbeats 400000 in
theorem cM_runSplit {S : Nat → Option ow_Sh} {I : ow_I} {V : Nat → Nat → Value} {z : Nat} {m : Nat} {b : Int32} {e : Nat} (h_m : md_S S m) (hv : md_V (I (m + 1))) (he1 : 1 ≤ e) (he8 : e ≤ 8) : ow_Cf yX11_runSplit cX11_runSplit 3 (some .boolean) 4 [.ref m, .int b, .int (nI e)] (S, I, V, z) (some (.int (bi ((M_runSplit m b e I).1)))) (S, (M_runSplit m b e I).2, V, z) := by
  refine ow_Cf.of rfl (Nat.le_of_ble_eq_true rfl) (fun X K E F hk => ?_)
  have E : ow_E X RX11 cX11_runSplit 3 (ow_rm 4 0 0) := E
  refine or_lv [(0, .ref m), (1, .int b), (2, .int (nI e))] rfl ?_
  dsimp only [M_runSplit] at hk
  refine or_aload_n E rfl dX11_runSplit_0 ?_
  refine or_iload_n E rfl dX11_runSplit_1 ?_
  refine or_cV1r (cM_isBarrel  h_m ) E lk_11_268 dX11_runSplit_2 h_m.1 rfl rfl (by decide) (by decide) ⟨Nat.le_refl _, Nat.le_refl _⟩ (Nat.le_of_ble_eq_true rfl) ?_
  refine or_if_eqZ 17 E dX11_runSplit_5 rfl (fun q5 => ?_) (fun q5 => ?_)
  · replace hk := ite_n (P := fun r : Bool × ow_I => K (some (.int (bi ((r).1)))) (S, (r).2, V, z)) (bz_neg q5) hk
    refine or_iconst (v := nI 0) E rfl dX11_runSplit_17 ?_
    try dsimp only at hk
    exact or_zret E F dX11_runSplit_18 (Nat.le_refl _) (Nat.le_refl _) (bi_nar false) hk
  · replace hk := ite_p (P := fun r : Bool × ow_I => K (some (.int (bi ((r).1)))) (S, (r).2, V, z)) q5 hk
    refine or_aload_n E rfl dX11_runSplit_8 ?_
    refine or_iload_n E rfl dX11_runSplit_9 ?_
    refine or_top (nI_tn (isB q5 hv.2.2.1.1).1).symm ?_
    refine or_iload_n E rfl dX11_runSplit_10 ?_
    refine or_cV2r (cM_canSplit  h_m (by have := isB q5 hv.2.2.1.1; have := hv.2.2.1; omega)) E lk_11_271 dX11_runSplit_11 h_m.1 rfl rfl (by decide) (by decide) ⟨Nat.le_refl _, Nat.le_refl _⟩ (Nat.le_of_ble_eq_true rfl) ?_
    refine or_if_neZ 19 E dX11_runSplit_14 rfl (fun q14 => ?_) (fun q14 => ?_)
    · replace hk := ite_p (P := fun r : Bool × ow_I => K (some (.int (bi ((r).1)))) (S, (r).2, V, z)) q14 hk
      refine or_aload_n E rfl dX11_runSplit_19 ?_
      refine or_iload_n E rfl dX11_runSplit_20 ?_
      refine or_top (nI_tn (isB q5 hv.2.2.1.1).1).symm ?_
      refine or_iload_n E rfl dX11_runSplit_21 ?_
      refine or_cV2r (cM_splitNow  h_m (by have := isB q5 hv.2.2.1.1; have := hv.2.2.1; omega) (hv.2.2.2.2.2.2.2.2.2 _ (isB q5 hv.2.2.1.1).2).1 (hv.2.2.2.2.2.2.2.2.2 _ (isB q5 hv.2.2.1.1).2).2.2 (by have := (lt_tn (cS q14).2.1 (nI_ge0 (by omega))).2; rw [tn_nI (by omega)] at this; exact this) hv.2.2.1.1 (cS7 hv q14) hv.2.2.2.2.2.1.1 (mdV_qlt hv (cS7 hv q14))) E lk_11_275 dX11_runSplit_22 h_m.1 rfl rfl (by decide) (by decide) ⟨Nat.le_refl _, Nat.le_refl _⟩ (Nat.le_of_ble_eq_true rfl) ?_
      obtain ⟨r1, hr1⟩ : ∃ y_ : Nat × ow_I, y_ = M_splitNow m (tn b) e I := ⟨_, rfl⟩
      replace hk := lt_k (P := fun r : Bool × ow_I => K (some (.int (bi ((r).1)))) (S, (r).2, V, z)) hr1 hk
      refine or_nmN hr1 ?_
      refine or_pop E rfl dX11_runSplit_25 ?_
      refine or_iconst (v := nI 1) E rfl dX11_runSplit_26 ?_
      try dsimp only at hk
      exact or_zret E F dX11_runSplit_27 (Nat.le_refl _) (Nat.le_refl _) (bi_nar true) hk
    · replace hk := ite_n (P := fun r : Bool × ow_I => K (some (.int (bi ((r).1)))) (S, (r).2, V, z)) (bz_neg q14) hk
      refine or_iconst (v := nI 0) E rfl dX11_runSplit_17 ?_
      try dsimp only at hk
      exact or_zret E F dX11_runSplit_18 (Nat.le_refl _) (Nat.le_refl _) (bi_nar false) hk
def M_runWithdraw (m : Nat) (b : Int32) (I : ow_I) : Bool × ow_I :=
  if M_isBarrel m b I then if M_isWaiting m (tn b) I then lt (M_withdrawNow m (tn b) I) (fun (r1 : Int32 × ow_I) => (true, r1.2)) else (false, I) else (false, I)
set_option maxRecDepth 100000 in
set_option maxHeartbeats 400000 in
theorem cM_runWithdraw {S : Nat → Option ow_Sh} {I : ow_I} {V : Nat → Nat → Value} {z : Nat} {m : Nat} {b : Int32} (h_m : md_S S m) (hv : md_V (I (m + 1))) : ow_Cf yX11_runWithdraw cX11_runWithdraw 2 (some .boolean) 2 [.ref m, .int b] (S, I, V, z) (some (.int (bi ((M_runWithdraw m b I).1)))) (S, (M_runWithdraw m b I).2, V, z) := by
  refine ow_Cf.of rfl (Nat.le_of_ble_eq_true rfl) (fun X K E F hk => ?_)
  have E : ow_E X RX11 cX11_runWithdraw 2 (ow_rm 2 0 0) := E
  refine or_lv [(0, .ref m), (1, .int b)] rfl ?_
  dsimp only [M_runWithdraw] at hk
  refine or_aload_n E rfl dX11_runWithdraw_0 ?_
  refine or_iload_n E rfl dX11_runWithdraw_1 ?_
  refine or_cV1r (cM_isBarrel  h_m ) E lk_11_268 dX11_runWithdraw_2 h_m.1 rfl rfl (by decide) (by decide) ⟨Nat.le_refl _, Nat.le_refl _⟩ (Nat.le_of_ble_eq_true rfl) ?_
  refine or_if_eqZ 16 E dX11_runWithdraw_5 rfl (fun q5 => ?_) (fun q5 => ?_)
  · replace hk := ite_n (P := fun r : Bool × ow_I => K (some (.int (bi ((r).1)))) (S, (r).2, V, z)) (bz_neg q5) hk
    refine or_iconst (v := nI 0) E rfl dX11_runWithdraw_16 ?_
    try dsimp only at hk
    exact or_zret E F dX11_runWithdraw_17 (Nat.le_refl _) (Nat.le_refl _) (bi_nar false) hk
  · replace hk := ite_p (P := fun r : Bool × ow_I => K (some (.int (bi ((r).1)))) (S, (r).2, V, z)) q5 hk
    refine or_aload_n E rfl dX11_runWithdraw_8 ?_
    refine or_iload_n E rfl dX11_runWithdraw_9 ?_
    refine or_top (nI_tn (isB q5 hv.2.2.1.1).1).symm ?_
    refine or_cV1r (cM_isWaiting  h_m (by have := isB q5 hv.2.2.1.1; have := hv.2.2.1; omega)) E lk_11_156 dX11_runWithdraw_10 h_m.1 rfl rfl (by decide) (by decide) ⟨Nat.le_refl _, Nat.le_refl _⟩ (Nat.le_of_ble_eq_true rfl) ?_
    refine or_if_neZ 18 E dX11_runWithdraw_13 rfl (fun q13 => ?_) (fun q13 => ?_)
    · replace hk := ite_p (P := fun r : Bool × ow_I => K (some (.int (bi ((r).1)))) (S, (r).2, V, z)) q13 hk
      refine or_aload_n E rfl dX11_runWithdraw_18 ?_
      refine or_iload_n E rfl dX11_runWithdraw_19 ?_
      refine or_top (nI_tn (isB q5 hv.2.2.1.1).1).symm ?_
      refine or_cV1r (cM_withdrawNow  h_m (p:=(V_wait hv (isB q5 hv.2.2.1.1).2 q13).choose) (by have := isB q5 hv.2.2.1.1; have := hv.2.2.1; omega) (V_wait hv (isB q5 hv.2.2.1.1).2 q13).choose_spec.1 (V_wait hv (isB q5 hv.2.2.1.1).2 q13).choose_spec.2 hv.2.2.2.2.2.1.1 hv.2.2.2.2.2.1.2) E lk_11_278 dX11_runWithdraw_20 h_m.1 rfl rfl (by decide) (by decide) ⟨Nat.le_refl _, Nat.le_refl _⟩ (Nat.le_of_ble_eq_true rfl) ?_
      obtain ⟨r1, hr1⟩ : ∃ y_ : Int32 × ow_I, y_ = M_withdrawNow m (tn b) I := ⟨_, rfl⟩
      replace hk := lt_k (P := fun r : Bool × ow_I => K (some (.int (bi ((r).1)))) (S, (r).2, V, z)) hr1 hk
      refine or_nmJ hr1 ?_
      refine or_pop E rfl dX11_runWithdraw_23 ?_
      refine or_iconst (v := nI 1) E rfl dX11_runWithdraw_24 ?_
      try dsimp only at hk
      exact or_zret E F dX11_runWithdraw_25 (Nat.le_refl _) (Nat.le_refl _) (bi_nar true) hk
    · replace hk := ite_n (P := fun r : Bool × ow_I => K (some (.int (bi ((r).1)))) (S, (r).2, V, z)) (bz_neg q13) hk
      refine or_iconst (v := nI 0) E rfl dX11_runWithdraw_16 ?_
      try dsimp only at hk
      exact or_zret E F dX11_runWithdraw_17 (Nat.le_refl _) (Nat.le_refl _) (bi_nar false) hk
def M_execute (m : Nat) (a : Nat) (I : ow_I) : Bool × ow_I :=
  if I (m + 5) a = nI (2 + 0) then lt (M_runBarrel m a I) (fun (r1 : Bool × ow_I) => (r1.1, r1.2)) else if I (m + 5) a = nI (2 + 1) then lt (M_runNod m (tn (I (m + 5) (a + 2))) I) (fun (r2 : Bool × ow_I) => (r2.1, r2.2)) else if I (m + 5) a = nI (2 + 2) then lt (M_passAll m (tn (I (m + 5) (a + 2))) I) (fun (r3 : Int32 × ow_I) => (true, r3.2)) else if I (m + 5) a = nI (2 + 3) then lt (M_runSplit m (I (m + 5) (a + 2)) (tn (I (m + 5) (a + 3))) I) (fun (r4 : Bool × ow_I) => (r4.1, r4.2)) else if I (m + 5) a = nI (2 + 4) then lt (M_fundNow m (tn (I (m + 5) (a + 2))) (I (m + 5) (a + 3)) I) (fun (r5 : Int32 × ow_I) => (true, r5.2)) else if I (m + 5) a = nI (2 + 5) then lt (M_runWithdraw m (I (m + 5) (a + 2)) I) (fun (r6 : Bool × ow_I) => (r6.1, r6.2)) else lt (M_passAll m (tn (I (m + 5) (a + 2))) I) (fun (r7 : Int32 × ow_I) => (true, r7.2))
set_option maxRecDepth 100000 in
set_option maxHeartbeats 400000 in
theorem cM_execute {S : Nat → Option ow_Sh} {I : ow_I} {V : Nat → Nat → Value} {z : Nat} {m : Nat} {a : Nat} (h_m : md_S S m) (hv : md_V (I (m + 1))) (ha : a ≤ 247) (hcm : md_CC (I (m + 1) 6) (fun k => I (m + 5) (a + k))) : ow_Cf yX11_execute cX11_execute 4 (some .boolean) 8 [.ref m, .int (nI a)] (S, I, V, z) (some (.int (bi ((M_execute m a I).1)))) (S, (M_execute m a I).2, V, z) := by
  refine ow_Cf.of rfl (Nat.le_of_ble_eq_true rfl) (fun X K E F hk => ?_)
  have E : ow_E X RX11 cX11_execute 4 (ow_rm 8 0 0) := E
  refine or_lv [(0, .ref m), (1, .int (nI a))] rfl ?_
  dsimp only [M_execute] at hk
  refine or_aload_n E rfl dX11_execute_0 ?_
  refine ot_getC E fl_11_28 dX11_execute_1 h_m.1 rfl ?_
  refine or_iload_n E rfl dX11_execute_4 ?_
  refine or_iconst (v := nI 2) E rfl dX11_execute_5 ?_
  refine or_iaddN E dX11_execute_6 ?_
  refine ot_iald (j := a + 2) E dX11_execute_7 h_m.2.2.2.2.2.1 rfl rfl (by omega) (Nat.le_of_ble_eq_true rfl) ?_
  refine or_istore_n E dX11_execute_8 (by decide) ?_
  refine or_aload_n E rfl dX11_execute_9 ?_
  refine ot_getC E fl_11_28 dX11_execute_10 h_m.1 rfl ?_
  refine or_iload_n E rfl dX11_execute_13 ?_
  refine or_iconst (v := nI 3) E rfl dX11_execute_14 ?_
  refine or_iaddN E dX11_execute_15 ?_
  refine ot_iald (j := a + 3) E dX11_execute_16 h_m.2.2.2.2.2.1 rfl rfl (by omega) (Nat.le_of_ble_eq_true rfl) ?_
  refine or_istore_n E dX11_execute_17 (by decide) ?_
  refine or_aload_n E rfl dX11_execute_18 ?_
  refine ot_getC E fl_11_28 dX11_execute_19 h_m.1 rfl ?_
  refine or_iload_n E rfl dX11_execute_22 ?_
  refine ot_iald (j := a) E dX11_execute_23 h_m.2.2.2.2.2.1 rfl rfl (by omega) (Nat.le_of_ble_eq_true rfl) ?_
  refine or_tab6 (lo := 2) 64 70 98 76 89 83 98 E dX11_execute_24 (by decide) rfl rfl rfl rfl rfl rfl rfl (fun q24_0 => ?_) (fun q24_0 q24_1 => ?_) (fun q24_0 q24_1 q24_2 => ?_) (fun q24_0 q24_1 q24_2 q24_3 => ?_) (fun q24_0 q24_1 q24_2 q24_3 q24_4 => ?_) (fun q24_0 q24_1 q24_2 q24_3 q24_4 q24_5 => ?_) (fun q24_0 q24_1 q24_2 q24_3 q24_4 q24_5 => ?_)
  · replace hk := ite_p (P := fun r : Bool × ow_I => K (some (.int (bi ((r).1)))) (S, (r).2, V, z)) q24_0 hk
    refine or_aload_n E rfl dX11_execute_64 ?_
    refine or_iload_n E rfl dX11_execute_65 ?_
    refine or_cV1r (cM_runBarrel  h_m ha hv (CC2 hcm q24_0).1 (CC2 hcm q24_0).2.2) E lk_11_281 dX11_execute_66 h_m.1 rfl rfl (by decide) (by decide) ⟨Nat.le_refl _, Nat.le_refl _⟩ (Nat.le_of_ble_eq_true rfl) ?_
    obtain ⟨r1, hr1⟩ : ∃ y_ : Bool × ow_I, y_ = M_runBarrel m a I := ⟨_, rfl⟩
    replace hk := lt_k (P := fun r : Bool × ow_I => K (some (.int (bi ((r).1)))) (S, (r).2, V, z)) hr1 hk
    refine or_nmZ hr1 ?_
    try dsimp only at hk
    exact or_zret E F dX11_execute_69 (Nat.le_refl _) (Nat.le_refl _) (bi_nar _) hk
  · replace hk := ite_n (P := fun r : Bool × ow_I => K (some (.int (bi ((r).1)))) (S, (r).2, V, z)) q24_0 hk; replace hk := ite_p (P := fun r : Bool × ow_I => K (some (.int (bi ((r).1)))) (S, (r).2, V, z)) q24_1 hk
    refine or_aload_n E rfl dX11_execute_70 ?_
    refine or_iload_n E rfl dX11_execute_71 ?_
    refine or_top (nI_tn (CC3 hcm q24_1).1).symm ?_
    refine or_cV1r (cM_runNod  h_m hv (CC3 hcm q24_1).2) E lk_11_284 dX11_execute_72 h_m.1 rfl rfl (by decide) (by decide) ⟨Nat.le_refl _, Nat.le_refl _⟩ (Nat.le_of_ble_eq_true rfl) ?_
    obtain ⟨r2, hr2⟩ : ∃ y_ : Bool × ow_I, y_ = M_runNod m (tn (I (m + 5) (a + 2))) I := ⟨_, rfl⟩
    replace hk := lt_k (P := fun r : Bool × ow_I => K (some (.int (bi ((r).1)))) (S, (r).2, V, z)) hr2 hk
    refine or_nmZ hr2 ?_
    try dsimp only at hk
    exact or_zret E F dX11_execute_75 (Nat.le_refl _) (Nat.le_refl _) (bi_nar _) hk
  · replace hk := ite_n (P := fun r : Bool × ow_I => K (some (.int (bi ((r).1)))) (S, (r).2, V, z)) q24_0 hk; replace hk := ite_n (P := fun r : Bool × ow_I => K (some (.int (bi ((r).1)))) (S, (r).2, V, z)) q24_1 hk; replace hk := ite_p (P := fun r : Bool × ow_I => K (some (.int (bi ((r).1)))) (S, (r).2, V, z)) q24_2 hk
    refine or_aload_n E rfl dX11_execute_98 ?_
    refine or_iload_n E rfl dX11_execute_99 ?_
    refine or_top (nI_tn (by first | exact (CC4a hcm q24_2).1 | exact (CC4 hcm q24_0 q24_1 q24_3 q24_4 q24_5).1)).symm ?_
    refine or_cV1r (cM_passAll  h_m (by have h200 := (by first | exact (CC4a hcm q24_2).2.2 | exact (CC4 hcm q24_0 q24_1 q24_3 q24_4 q24_5).2.2); omega) hv) E lk_11_296 dX11_execute_100 h_m.1 rfl rfl (by decide) (by decide) ⟨Nat.le_refl _, Nat.le_refl _⟩ (Nat.le_of_ble_eq_true rfl) ?_
    obtain ⟨r3, hr3⟩ : ∃ y_ : Int32 × ow_I, y_ = M_passAll m (tn (I (m + 5) (a + 2))) I := ⟨_, rfl⟩
    replace hk := lt_k (P := fun r : Bool × ow_I => K (some (.int (bi ((r).1)))) (S, (r).2, V, z)) hr3 hk
    refine or_nmJ hr3 ?_
    refine or_pop E rfl dX11_execute_103 ?_
    refine or_iconst (v := nI 1) E rfl dX11_execute_104 ?_
    try dsimp only at hk
    exact or_zret E F dX11_execute_105 (Nat.le_refl _) (Nat.le_refl _) (bi_nar true) hk
  · replace hk := ite_n (P := fun r : Bool × ow_I => K (some (.int (bi ((r).1)))) (S, (r).2, V, z)) q24_0 hk; replace hk := ite_n (P := fun r : Bool × ow_I => K (some (.int (bi ((r).1)))) (S, (r).2, V, z)) q24_1 hk; replace hk := ite_n (P := fun r : Bool × ow_I => K (some (.int (bi ((r).1)))) (S, (r).2, V, z)) q24_2 hk; replace hk := ite_p (P := fun r : Bool × ow_I => K (some (.int (bi ((r).1)))) (S, (r).2, V, z)) q24_3 hk
    refine or_aload_n E rfl dX11_execute_76 ?_
    refine or_iload_n E rfl dX11_execute_77 ?_
    refine or_iload_n E rfl dX11_execute_78 ?_
    refine or_top (nI_tn (CC5 hcm q24_3).2.1).symm ?_
    refine or_cV2r (cM_runSplit  h_m hv (CC5 hcm q24_3).2.2.1 (CC5 hcm q24_3).2.2.2) E lk_11_287 dX11_execute_79 h_m.1 rfl rfl (by decide) (by decide) ⟨Nat.le_refl _, Nat.le_refl _⟩ (Nat.le_of_ble_eq_true rfl) ?_
    obtain ⟨r4, hr4⟩ : ∃ y_ : Bool × ow_I, y_ = M_runSplit m (I (m + 5) (a + 2)) (tn (I (m + 5) (a + 3))) I := ⟨_, rfl⟩
    replace hk := lt_k (P := fun r : Bool × ow_I => K (some (.int (bi ((r).1)))) (S, (r).2, V, z)) hr4 hk
    refine or_nmZ hr4 ?_
    try dsimp only at hk
    exact or_zret E F dX11_execute_82 (Nat.le_refl _) (Nat.le_refl _) (bi_nar _) hk
  · replace hk := ite_n (P := fun r : Bool × ow_I => K (some (.int (bi ((r).1)))) (S, (r).2, V, z)) q24_0 hk; replace hk := ite_n (P := fun r : Bool × ow_I => K (some (.int (bi ((r).1)))) (S, (r).2, V, z)) q24_1 hk; replace hk := ite_n (P := fun r : Bool × ow_I => K (some (.int (bi ((r).1)))) (S, (r).2, V, z)) q24_2 hk; replace hk := ite_n (P := fun r : Bool × ow_I => K (some (.int (bi ((r).1)))) (S, (r).2, V, z)) q24_3 hk; replace hk := ite_p (P := fun r : Bool × ow_I => K (some (.int (bi ((r).1)))) (S, (r).2, V, z)) q24_4 hk
    refine or_aload_n E rfl dX11_execute_89 ?_
    refine or_iload_n E rfl dX11_execute_90 ?_
    refine or_top (nI_tn (CC6 hcm q24_4).1.1).symm ?_
    refine or_iload_n E rfl dX11_execute_91 ?_
    refine or_cV2r (cM_fundNow  h_m (by have := (CC6 hcm q24_4).1.2; have := hv.2.1; omega)) E lk_11_293 dX11_execute_92 h_m.1 rfl rfl (by decide) (by decide) ⟨Nat.le_refl _, Nat.le_refl _⟩ (Nat.le_of_ble_eq_true rfl) ?_
    obtain ⟨r5, hr5⟩ : ∃ y_ : Int32 × ow_I, y_ = M_fundNow m (tn (I (m + 5) (a + 2))) (I (m + 5) (a + 3)) I := ⟨_, rfl⟩
    replace hk := lt_k (P := fun r : Bool × ow_I => K (some (.int (bi ((r).1)))) (S, (r).2, V, z)) hr5 hk
    refine or_nmJ hr5 ?_
    refine or_pop E rfl dX11_execute_95 ?_
    refine or_iconst (v := nI 1) E rfl dX11_execute_96 ?_
    try dsimp only at hk
    exact or_zret E F dX11_execute_97 (Nat.le_refl _) (Nat.le_refl _) (bi_nar true) hk
  · replace hk := ite_n (P := fun r : Bool × ow_I => K (some (.int (bi ((r).1)))) (S, (r).2, V, z)) q24_0 hk; replace hk := ite_n (P := fun r : Bool × ow_I => K (some (.int (bi ((r).1)))) (S, (r).2, V, z)) q24_1 hk; replace hk := ite_n (P := fun r : Bool × ow_I => K (some (.int (bi ((r).1)))) (S, (r).2, V, z)) q24_2 hk; replace hk := ite_n (P := fun r : Bool × ow_I => K (some (.int (bi ((r).1)))) (S, (r).2, V, z)) q24_3 hk; replace hk := ite_n (P := fun r : Bool × ow_I => K (some (.int (bi ((r).1)))) (S, (r).2, V, z)) q24_4 hk; replace hk := ite_p (P := fun r : Bool × ow_I => K (some (.int (bi ((r).1)))) (S, (r).2, V, z)) q24_5 hk
    refine or_aload_n E rfl dX11_execute_83 ?_
    refine or_iload_n E rfl dX11_execute_84 ?_
    refine or_cV1r (cM_runWithdraw  h_m hv) E lk_11_290 dX11_execute_85 h_m.1 rfl rfl (by decide) (by decide) ⟨Nat.le_refl _, Nat.le_refl _⟩ (Nat.le_of_ble_eq_true rfl) ?_
    obtain ⟨r6, hr6⟩ : ∃ y_ : Bool × ow_I, y_ = M_runWithdraw m (I (m + 5) (a + 2)) I := ⟨_, rfl⟩
    replace hk := lt_k (P := fun r : Bool × ow_I => K (some (.int (bi ((r).1)))) (S, (r).2, V, z)) hr6 hk
    refine or_nmZ hr6 ?_
    try dsimp only at hk
    exact or_zret E F dX11_execute_88 (Nat.le_refl _) (Nat.le_refl _) (bi_nar _) hk
  · replace hk := ite_n (P := fun r : Bool × ow_I => K (some (.int (bi ((r).1)))) (S, (r).2, V, z)) q24_0 hk; replace hk := ite_n (P := fun r : Bool × ow_I => K (some (.int (bi ((r).1)))) (S, (r).2, V, z)) q24_1 hk; replace hk := ite_n (P := fun r : Bool × ow_I => K (some (.int (bi ((r).1)))) (S, (r).2, V, z)) q24_2 hk; replace hk := ite_n (P := fun r : Bool × ow_I => K (some (.int (bi ((r).1)))) (S, (r).2, V, z)) q24_3 hk; replace hk := ite_n (P := fun r : Bool × ow_I => K (some (.int (bi ((r).1)))) (S, (r).2, V, z)) q24_4 hk; replace hk := ite_n (P := fun r : Bool × ow_I => K (some (.int (bi ((r).1)))) (S, (r).2, V, z)) q24_5 hk
    refine or_aload_n E rfl dX11_execute_98 ?_
    refine or_iload_n E rfl dX11_execute_99 ?_
    refine or_top (nI_tn (by first | exact (CC4a hcm q24_2).1 | exact (CC4 hcm q24_0 q24_1 q24_3 q24_4 q24_5).1)).symm ?_
    refine or_cV1r (cM_passAll  h_m (by have h200 := (by first | exact (CC4a hcm q24_2).2.2 | exact (CC4 hcm q24_0 q24_1 q24_3 q24_4 q24_5).2.2); omega) hv) E lk_11_296 dX11_execute_100 h_m.1 rfl rfl (by decide) (by decide) ⟨Nat.le_refl _, Nat.le_refl _⟩ (Nat.le_of_ble_eq_true rfl) ?_
    obtain ⟨r7, hr7⟩ : ∃ y_ : Int32 × ow_I, y_ = M_passAll m (tn (I (m + 5) (a + 2))) I := ⟨_, rfl⟩
    replace hk := lt_k (P := fun r : Bool × ow_I => K (some (.int (bi ((r).1)))) (S, (r).2, V, z)) hr7 hk
    refine or_nmJ hr7 ?_
    refine or_pop E rfl dX11_execute_103 ?_
    refine or_iconst (v := nI 1) E rfl dX11_execute_104 ?_
    try dsimp only at hk
    exact or_zret E F dX11_execute_105 (Nat.le_refl _) (Nat.le_refl _) (bi_nar true) hk
