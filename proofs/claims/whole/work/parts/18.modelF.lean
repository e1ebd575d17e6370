theorem rdAE0 {m b : Nat} {x : Int32} {I : ow_I} : M_ofBarrel m b 0 (M_addEel m b x I) = nI (tn (M_ofBarrel m b 0 I) + 1) := by
  simp [M_addEel, M_ofBarrel, M_putBarrel, lt_eq, ow_u]
theorem rdNB1 {m : Nat} {r : Int32} {I : ow_I} : (M_newBarrel m r I).1 = tn (I (m + 1) 7) := rfl
theorem rdNB0 {m : Nat} {r : Int32} {I : ow_I} (h : tn (I (m + 1) 12) < 20) : M_ofBarrel m (tn (I (m + 1) 7)) 0 (M_newBarrel m r I).2 = nI 0 := by
  simp (disch := omega) only [M_newBarrel, M_ofBarrel, M_enqueue, M_putBarrel, lt_eq, ow_u_k, ow_u_s]
theorem fl_11_57 : ow_fl RX11 57 11 2 := ⟨_, rfl, by decide, ow_T_in 1637 (by decide +kernel) (by decide +kernel), ow_ok11⟩
theorem fl_11_60 : ow_fl RX11 60 11 1 := ⟨_, rfl, by decide, ow_T_in 1636 (by decide +kernel) (by decide +kernel), ow_ok11⟩
theorem fw_11_1 : ∃ r : vw_C, ow_cl[11]? = some r ∧ (r.2.1 1).2.2.2 = false ∧ parseFieldDescriptor (r.2.1 1).2.2.1 = some .int := ⟨_, rfl, rfl, by decide +kernel⟩
theorem fw_11_2 : ∃ r : vw_C, ow_cl[11]? = some r ∧ (r.2.1 2).2.2.2 = false ∧ parseFieldDescriptor (r.2.1 2).2.2.1 = some .int := ⟨_, rfl, rfl, by decide +kernel⟩
theorem lk_11_46 : ow_lv RX11 46 yX11_newBarrel cX11_newBarrel 3 (some .int) 1 := ⟨ow_T_in 1615 (by decide +kernel) (by decide +kernel), ow_T_in 1617 (by decide +kernel) (by decide +kernel), ow_T_sel 38 (by decide +kernel) (by decide +kernel), ow_T_in 19 (by decide +kernel) (by decide +kernel), ow_T_in 1618 (by decide +kernel) (by decide +kernel), ⟨by decide +kernel, by decide +kernel, by decide +kernel⟩⟩
theorem lk_11_50 : ow_lv RX11 50 yX11_addEel cX11_addEel 4 none 2 := ⟨ow_T_in 1627 (by decide +kernel) (by decide +kernel), ow_T_in 1629 (by decide +kernel) (by decide +kernel), ow_T_sel 41 (by decide +kernel) (by decide +kernel), ow_T_in 19 (by decide +kernel) (by decide +kernel), ow_T_in 1630 (by decide +kernel) (by decide +kernel), ⟨by decide +kernel, by decide +kernel, by decide +kernel⟩⟩
theorem lk_11_63 : ow_lv RX11 63 yX11_copyBlock cX11_copyBlock 4 none 2 := ⟨ow_T_in 1732 (by decide +kernel) (by decide +kernel), ow_T_in 1734 (by decide +kernel) (by decide +kernel), ow_T_sel 45 (by decide +kernel) (by decide +kernel), ow_T_in 19 (by decide +kernel) (by decide +kernel), ow_T_in 1735 (by decide +kernel) (by decide +kernel), ⟨by decide +kernel, by decide +kernel, by decide +kernel⟩⟩
theorem lk_11_159 : ow_ls RX11 159 yX11_atLeastOne cX11_atLeastOne 1 (some .int) 1 := ⟨rfl, ow_T_in 1897 (by decide +kernel) (by decide +kernel), ow_T_in 1898 (by decide +kernel) (by decide +kernel), ow_T_in 19 (by decide +kernel) (by decide +kernel), ow_T_in 1899 (by decide +kernel) (by decide +kernel), ⟨by decide +kernel, by decide +kernel, by decide +kernel⟩⟩
theorem wd_1920 : Cond.constant RX11 162 (nI 99999) ∈ ow_T := ow_T_in 1920 (by decide +kernel) (by decide +kernel)
def M_splitNow_L40 (m : Nat) (b : Nat) (e : Nat) : Nat → ow_I → Nat → Int32 → Int32 → Nat → Nat → Nat × ow_I
  | 0, I, _, _, _, _, _ => (default, I)
  | n + 1, I, n3, r4, s5, p6, j => if n3 ≤ j then lt (M_putBarrel m b 0 (nI (n3 - e)) I) (fun (I2 : ow_I) => lt (M_putBarrel m b 10 (M_atLeastOne (r4 - s5) I2) I2) (fun (I3 : ow_I) => (p6, I3))) else lt (M_addEel m p6 (M_lengthOf m b j I) I) (fun (I4 : ow_I) => M_splitNow_L40 m b e n I4 n3 r4 s5 p6 (j + 1))
def M_splitNow (m : Nat) (b : Nat) (e : Nat) (I : ow_I) : Nat × ow_I :=
  lt (M_newBarrel m (M_atLeastOne (((M_ofBarrel m b 10 I) * (nI e)) / (nI (tn (M_ofBarrel m b 0 I)))) I) I) (fun (r1 : Nat × ow_I) => M_splitNow_L40 m b e 10 r1.2 (tn (M_ofBarrel m b 0 I)) (M_ofBarrel m b 10 I) (((M_ofBarrel m b 10 I) * (nI e)) / (nI (tn (M_ofBarrel m b 0 I)))) r1.1 ((tn (M_ofBarrel m b 0 I)) - e))
set_option maxRecDepth 100000 in
set_option maxHeartbeats 400000 in
theorem cM_splitNow {S : Nat → Option ow_Sh} {I : ow_I} {V : Nat → Nat → Value} {z : Nat} {m : Nat} {b : Nat} {e : Nat} (h_m : md_S S m) (hb : b < 20) (he : 0 ≤ M_ofBarrel m b 0 I) (heb : tn (M_ofBarrel m b 0 I) ≤ 9) (hee : e < tn (M_ofBarrel m b 0 I)) (h7 : 0 ≤ I (m + 1) 7) (h7b : tn (I (m + 1) 7) < 20) (h12 : 0 ≤ I (m + 1) 12) (h12b : tn (I (m + 1) 12) < 20) : ow_Cf yX11_splitNow cX11_splitNow 8 (some .int) 3 [.ref m, .int (nI b), .int (nI e)] (S, I, V, z) (some (.int (nI ((M_splitNow m b e I).1)))) (S, (M_splitNow m b e I).2, V, z) := by
  refine ow_Cf.of rfl (Nat.le_of_ble_eq_true rfl) (fun X K E F hk => ?_)
  have E : ow_E X RX11 cX11_splitNow 8 (ow_rm 3 0 0) := E
  refine or_lv [(0, .ref m), (1, .int (nI b)), (2, .int (nI e))] rfl ?_
  have L40 : ∀ (n : Nat) (I : ow_I) (n3 : Nat) (r4 : Int32) (s5 : Int32) (p6 : Nat) (j : Nat) (hp : p6 < 20) (hn3 : n3 ≤ 9) (hen : e ≤ n3) (hj : j ≤ n3) (hc : 0 ≤ M_ofBarrel m p6 0 I ∧ tn (M_ofBarrel m p6 0 I) + (n3 - j) ≤ 9) (hm : n3 - j < n) (hk : K (some (.int (nI ((M_splitNow_L40 m b e n I n3 r4 s5 p6 j).1)))) (S, (M_splitNow_L40 m b e n I n3 r4 s5 p6 j).2, V, z)), ow_W X 0 0 (S, I, V, z) 40 [(0, .ref m), (1, .int (nI b)), (2, .int (nI e)), (3, .int (nI n3)), (4, .int r4), (5, .int s5), (6, .int (nI p6)), (7, .int (nI j))] [] := by
    intro n
    induction n with
    | zero => intro I n3 r4 s5 p6 j hp hn3 hen hj hc hm; omega
    | succ n ih =>
      intro I n3 r4 s5 p6 j hp hn3 hen hj hc hm hk
      dsimp only [M_splitNow_L40] at hk
      refine or_iload E rfl dX11_splitNow_40 ?_
      refine or_iload_n E rfl dX11_splitNow_42 ?_
      refine or_icmp_geN 65 E dX11_splitNow_43 rfl (by omega) (by omega) (fun q43 => ?_) (fun q43 => ?_)
      · replace hk := ite_p (P := fun r : Nat × ow_I => K (some (.int (nI ((r).1)))) (S, (r).2, V, z)) q43 hk
        refine or_aload_n E rfl dX11_splitNow_65 ?_
        refine or_iload_n E rfl dX11_splitNow_66 ?_
        refine or_iconst (v := nI 0) E rfl dX11_splitNow_67 ?_
        refine or_iload_n E rfl dX11_splitNow_68 ?_
        refine or_iload_n E rfl dX11_splitNow_69 ?_
        refine or_isubN E dX11_splitNow_70 (by omega) ?_
        refine or_cV3v (cM_putBarrel  h_m (by omega)) E lk_11_73 dX11_splitNow_71 h_m.1 rfl rfl (by decide) (by decide) ⟨Nat.le_refl _, Nat.le_refl _⟩ (Nat.le_of_ble_eq_true rfl) ?_
        obtain ⟨I2, hI2⟩ : ∃ y_ : ow_I, y_ = M_putBarrel m b 0 (nI (n3 - e)) I := ⟨_, rfl⟩
        replace hk := lt_k (P := fun r : Nat × ow_I => K (some (.int (nI ((r).1)))) (S, (r).2, V, z)) hI2 hk
        refine or_nmI hI2 ?_
        refine or_aload_n E rfl dX11_splitNow_74 ?_
        refine or_iload_n E rfl dX11_splitNow_75 ?_
        refine or_bipush (v := nI 10) E rfl dX11_splitNow_76 ?_
        refine or_iload E rfl dX11_splitNow_78 ?_
        refine or_iload E rfl dX11_splitNow_80 ?_
        refine or_isub E dX11_splitNow_82 ?_
        refine or_cS1r (cM_atLeastOne   ) E lk_11_159 dX11_splitNow_83 (by decide) (by decide) ⟨Nat.le_refl _, Nat.le_refl _⟩ (Nat.le_of_ble_eq_true rfl) ?_
        refine or_cV3v (cM_putBarrel  h_m (by omega)) E lk_11_73 dX11_splitNow_86 h_m.1 rfl rfl (by decide) (by decide) ⟨Nat.le_refl _, Nat.le_refl _⟩ (Nat.le_of_ble_eq_true rfl) ?_
        obtain ⟨I3, hI3⟩ : ∃ y_ : ow_I, y_ = M_putBarrel m b 10 (M_atLeastOne (r4 - s5) I2) I2 := ⟨_, rfl⟩
        replace hk := lt_k (P := fun r : Nat × ow_I => K (some (.int (nI ((r).1)))) (S, (r).2, V, z)) hI3 hk
        refine or_nmI hI3 ?_
        refine or_iload E rfl dX11_splitNow_89 ?_
        try dsimp only at hk
        exact or_iret E F dX11_splitNow_91 (Nat.le_refl _) (Nat.le_refl _) hk
      · replace hk := ite_n (P := fun r : Nat × ow_I => K (some (.int (nI ((r).1)))) (S, (r).2, V, z)) q43 hk
        refine or_aload_n E rfl dX11_splitNow_46 ?_
        refine or_iload E rfl dX11_splitNow_47 ?_
        refine or_aload_n E rfl dX11_splitNow_49 ?_
        refine or_iload_n E rfl dX11_splitNow_50 ?_
        refine or_iload E rfl dX11_splitNow_51 ?_
        refine or_cV2r (cM_lengthOf  h_m (by omega)) E lk_11_80 dX11_splitNow_53 h_m.1 rfl rfl (by decide) (by decide) ⟨Nat.le_refl _, Nat.le_refl _⟩ (Nat.le_of_ble_eq_true rfl) ?_
        refine or_cV2v (cM_addEel  h_m hp hc.1 (by omega)) E lk_11_50 dX11_splitNow_56 h_m.1 rfl rfl (by decide) (by decide) ⟨Nat.le_refl _, Nat.le_refl _⟩ (Nat.le_of_ble_eq_true rfl) ?_
        obtain ⟨I4, hI4⟩ : ∃ y_ : ow_I, y_ = M_addEel m p6 (M_lengthOf m b j I) I := ⟨_, rfl⟩
        replace hk := lt_k (P := fun r : Nat × ow_I => K (some (.int (nI ((r).1)))) (S, (r).2, V, z)) hI4 hk
        refine or_nmI hI4 ?_
        refine or_iincN (c := 1) E dX11_splitNow_59 rfl rfl (by decide) ?_
        refine or_goto 40 E dX11_splitNow_62 rfl ?_
        refine or_lv _ ?_ (ih _ _ _ _ _ _ (by subst hI4; exact hp) (by subst hI4; exact hn3) (by subst hI4; exact hen) (by subst hI4; omega) (by subst hI4; rw [rdAE0]; exact ⟨nI_ge0 (by omega), by rw [tn_nI (by omega)]; omega⟩) (by omega) hk)
        rfl
  dsimp only [M_splitNow] at hk
  refine or_aload_n E rfl dX11_splitNow_0 ?_
  refine or_iload_n E rfl dX11_splitNow_1 ?_
  refine or_iconst (v := nI 0) E rfl dX11_splitNow_2 ?_
  refine or_cV2r (cM_ofBarrel  h_m (by omega)) E lk_11_66 dX11_splitNow_3 h_m.1 rfl rfl (by decide) (by decide) ⟨Nat.le_refl _, Nat.le_refl _⟩ (Nat.le_of_ble_eq_true rfl) ?_
  refine or_top (nI_tn he).symm ?_
  refine or_istore_n E dX11_splitNow_6 (by decide) ?_
  refine or_aload_n E rfl dX11_splitNow_7 ?_
  refine or_iload_n E rfl dX11_splitNow_8 ?_
  refine or_bipush (v := nI 10) E rfl dX11_splitNow_9 ?_
  refine or_cV2r (cM_ofBarrel  h_m (by omega)) E lk_11_66 dX11_splitNow_11 h_m.1 rfl rfl (by decide) (by decide) ⟨Nat.le_refl _, Nat.le_refl _⟩ (Nat.le_of_ble_eq_true rfl) ?_
  refine or_istore E dX11_splitNow_14 (by decide) ?_
  refine or_iload E rfl dX11_splitNow_16 ?_
  refine or_iload_n E rfl dX11_splitNow_18 ?_
  refine or_imul E dX11_splitNow_19 ?_
  refine or_iload_n E rfl dX11_splitNow_20 ?_
  refine or_idiv E (by rw [nI_z (by omega)]; omega) dX11_splitNow_21 ?_
  refine or_istore E dX11_splitNow_22 (by decide) ?_
  refine or_aload_n E rfl dX11_splitNow_24 ?_
  refine or_iload E rfl dX11_splitNow_25 ?_
  refine or_cS1r (cM_atLeastOne   ) E lk_11_159 dX11_splitNow_27 (by decide) (by decide) ⟨Nat.le_refl _, Nat.le_refl _⟩ (Nat.le_of_ble_eq_true rfl) ?_
  refine or_cV1r (cM_newBarrel  h_m h7 h7b h12 h12b) E lk_11_46 dX11_splitNow_30 h_m.1 rfl rfl (by decide) (by decide) ⟨Nat.le_refl _, Nat.le_refl _⟩ (Nat.le_of_ble_eq_true rfl) ?_
  obtain ⟨r1, hr1⟩ : ∃ y_ : Nat × ow_I, y_ = M_newBarrel m (M_atLeastOne (((M_ofBarrel m b 10 I) * (nI e)) / (nI (tn (M_ofBarrel m b 0 I)))) I) I := ⟨_, rfl⟩
  replace hk := lt_k (P := fun r : Nat × ow_I => K (some (.int (nI ((r).1)))) (S, (r).2, V, z)) hr1 hk
  refine or_nmN hr1 ?_
  refine or_istore E dX11_splitNow_33 (by decide) ?_
  refine or_iload_n E rfl dX11_splitNow_35 ?_
  refine or_iload_n E rfl dX11_splitNow_36 ?_
  refine or_isubN E dX11_splitNow_37 (by omega) ?_
  refine or_istore E dX11_splitNow_38 (by decide) ?_
  refine or_lv _ ?_ (L40 10 _ _ _ _ _ _ (by subst hr1; exact h7b) (by subst hr1; exact heb) (by subst hr1; omega) (by subst hr1; omega) (by subst hr1; rw [rdNB1, rdNB0 h12b]; exact ⟨nI_ge0 (by decide), by rw [tn_nI (by decide)]; omega⟩) (by omega) hk)
  rfl
def M_withdrawNow (m : Nat) (b : Nat) (I : ow_I) : Int32 × ow_I :=
  lt (M_dequeue m b I) (fun (I1 : ow_I) => lt (M_putBarrel m b 12 (nI 3) I1) (fun (I2 : ow_I) => (I2 (m + 1) 12, I2)))
set_option maxRecDepth 100000 in
set_option maxHeartbeats 400000 in
theorem cM_withdrawNow {S : Nat → Option ow_Sh} {I : ow_I} {V : Nat → Nat → Value} {z : Nat} {m : Nat} {b : Nat} {p : Nat} (h_m : md_S S m) (hb : b < 20) (hp : p < tn (I (m + 1) 12)) (hpm : I (m + 1) (16 + p) = nI b) (h12 : 0 ≤ I (m + 1) 12) (h12b : tn (I (m + 1) 12) ≤ 20) : ow_Cf yX11_withdrawNow cX11_withdrawNow 2 (some .int) 1 [.ref m, .int (nI b)] (S, I, V, z) (some (.int ((M_withdrawNow m b I).1))) (S, (M_withdrawNow m b I).2, V, z) := by
  refine ow_Cf.of rfl (Nat.le_of_ble_eq_true rfl) (fun X K E F hk => ?_)
  have E : ow_E X RX11 cX11_withdrawNow 2 (ow_rm 1 0 0) := E
  refine or_lv [(0, .ref m), (1, .int (nI b))] rfl ?_
  dsimp only [M_withdrawNow] at hk
  refine or_aload_n E rfl dX11_withdrawNow_0 ?_
  refine or_iload_n E rfl dX11_withdrawNow_1 ?_
  refine or_cV1v (cM_dequeue  h_m hp hpm h12 h12b) E lk_11_129 dX11_withdrawNow_2 h_m.1 rfl rfl (by decide) (by decide) ⟨Nat.le_refl _, Nat.le_refl _⟩ (Nat.le_of_ble_eq_true rfl) ?_
  obtain ⟨I1, hI1⟩ : ∃ y_ : ow_I, y_ = M_dequeue m b I := ⟨_, rfl⟩
  replace hk := lt_k (P := fun r : Int32 × ow_I => K (some (.int ((r).1))) (S, (r).2, V, z)) hI1 hk
  refine or_nmI hI1 ?_
  refine or_aload_n E rfl dX11_withdrawNow_5 ?_
  refine or_iload_n E rfl dX11_withdrawNow_6 ?_
  refine or_bipush (v := nI 12) E rfl dX11_withdrawNow_7 ?_
  refine or_iconst (v := nI 3) E rfl dX11_withdrawNow_9 ?_
  refine or_cV3v (cM_putBarrel  h_m (by omega)) E lk_11_73 dX11_withdrawNow_10 h_m.1 rfl rfl (by decide) (by decide) ⟨Nat.le_refl _, Nat.le_refl _⟩ (Nat.le_of_ble_eq_true rfl) ?_
  obtain ⟨I2, hI2⟩ : ∃ y_ : ow_I, y_ = M_putBarrel m b 12 (nI 3) I1 := ⟨_, rfl⟩
  replace hk := lt_k (P := fun r : Int32 × ow_I => K (some (.int ((r).1))) (S, (r).2, V, z)) hI2 hk
  refine or_nmI hI2 ?_
  refine or_aload_n E rfl dX11_withdrawNow_13 ?_
  refine ot_getC E fl_11_7 dX11_withdrawNow_14 h_m.1 rfl ?_
  refine or_bipush (v := nI 12) E rfl dX11_withdrawNow_17 ?_
  refine ot_iald (j := 12) E dX11_withdrawNow_19 h_m.2.1 rfl rfl (by omega) (Nat.le_of_ble_eq_true rfl) ?_
  try dsimp only at hk
  exact or_iret E F dX11_withdrawNow_20 (Nat.le_refl _) (Nat.le_refl _) hk
def M_fundNow (m : Nat) (b : Nat) (x : Int32) (I : ow_I) : Int32 × ow_I :=
  if nI 99999 - (M_of m b 0 I) ≤ x then lt (M_put m b 0 (M_of m b 0 I + (nI 99999 - (M_of m b 0 I))) I) (fun (I1 : ow_I) => lt (ow_u I1 (m + 1) 15 (I1 (m + 1) 15 + (nI 99999 - (M_of m b 0 I)))) (fun (I2 : ow_I) => (M_of m b 0 I2, I2))) else lt (M_put m b 0 (M_of m b 0 I + x) I) (fun (I3 : ow_I) => lt (ow_u I3 (m + 1) 15 (I3 (m + 1) 15 + x)) (fun (I4 : ow_I) => (M_of m b 0 I4, I4)))
set_option maxRecDepth 100000 in
set_option maxHeartbeats 400000 in
theorem cM_fundNow {S : Nat → Option ow_Sh} {I : ow_I} {V : Nat → Nat → Value} {z : Nat} {m : Nat} {b : Nat} {x : Int32} (h_m : md_S S m) (hb : b < 6) : ow_Cf yX11_fundNow cX11_fundNow 5 (some .int) 1 [.ref m, .int (nI b), .int x] (S, I, V, z) (some (.int ((M_fundNow m b x I).1))) (S, (M_fundNow m b x I).2, V, z) := by
  refine ow_Cf.of rfl (Nat.le_of_ble_eq_true rfl) (fun X K E F hk => ?_)
  have E : ow_E X RX11 cX11_fundNow 5 (ow_rm 1 0 0) := E
  refine or_lv [(0, .ref m), (1, .int (nI b)), (2, .int x)] rfl ?_
  dsimp only [M_fundNow] at hk
  refine or_ldc (v := nI 99999) E wd_1920 dX11_fundNow_0 ?_
  refine or_aload_n E rfl dX11_fundNow_2 ?_
  refine or_iload_n E rfl dX11_fundNow_3 ?_
  refine or_iconst (v := nI 0) E rfl dX11_fundNow_4 ?_
  refine or_cV2r (cM_of  h_m (by omega)) E lk_11_86 dX11_fundNow_5 h_m.1 rfl rfl (by decide) (by decide) ⟨Nat.le_refl _, Nat.le_refl _⟩ (Nat.le_of_ble_eq_true rfl) ?_
  refine or_isub E dX11_fundNow_8 ?_
  refine or_istore_n E dX11_fundNow_9 (by decide) ?_
  refine or_iload_n E rfl dX11_fundNow_10 ?_
  refine or_iload_n E rfl dX11_fundNow_11 ?_
  refine or_icmp_ge 19 E dX11_fundNow_12 rfl (fun q12 => ?_) (fun q12 => ?_)
  · replace hk := ite_p (P := fun r : Int32 × ow_I => K (some (.int ((r).1))) (S, (r).2, V, z)) q12 hk
    refine or_iload_n E rfl dX11_fundNow_19 ?_
    refine or_istore E dX11_fundNow_20 (by decide) ?_
    refine or_aload_n E rfl dX11_fundNow_22 ?_
    refine or_iload_n E rfl dX11_fundNow_23 ?_
    refine or_iconst (v := nI 0) E rfl dX11_fundNow_24 ?_
    refine or_aload_n E rfl dX11_fundNow_25 ?_
    refine or_iload_n E rfl dX11_fundNow_26 ?_
    refine or_iconst (v := nI 0) E rfl dX11_fundNow_27 ?_
    refine or_cV2r (cM_of  h_m (by omega)) E lk_11_86 dX11_fundNow_28 h_m.1 rfl rfl (by decide) (by decide) ⟨Nat.le_refl _, Nat.le_refl _⟩ (Nat.le_of_ble_eq_true rfl) ?_
    refine or_iload E rfl dX11_fundNow_31 ?_
    refine or_iadd E dX11_fundNow_33 ?_
    refine or_cV3v (cM_put  h_m (by omega)) E lk_11_70 dX11_fundNow_34 h_m.1 rfl rfl (by decide) (by decide) ⟨Nat.le_refl _, Nat.le_refl _⟩ (Nat.le_of_ble_eq_true rfl) ?_
    obtain ⟨I1, hI1⟩ : ∃ y_ : ow_I, y_ = M_put m b 0 (M_of m b 0 I + (nI 99999 - (M_of m b 0 I))) I := ⟨_, rfl⟩
    replace hk := lt_k (P := fun r : Int32 × ow_I => K (some (.int ((r).1))) (S, (r).2, V, z)) hI1 hk
    refine or_nmI hI1 ?_
    refine or_aload_n E rfl dX11_fundNow_37 ?_
    refine ot_getC E fl_11_7 dX11_fundNow_38 h_m.1 rfl ?_
    refine or_bipush (v := nI 15) E rfl dX11_fundNow_41 ?_
    refine or_dup2 E rfl rfl dX11_fundNow_43 ?_
    refine ot_iald (j := 15) E dX11_fundNow_44 h_m.2.1 rfl rfl (by omega) (Nat.le_of_ble_eq_true rfl) ?_
    refine or_iload E rfl dX11_fundNow_45 ?_
    refine or_iadd E dX11_fundNow_47 ?_
    refine ot_iast (j := 15) E dX11_fundNow_48 h_m.2.1 rfl rfl (by omega) (Nat.le_of_ble_eq_true rfl) ?_
    obtain ⟨I2, hI2⟩ : ∃ y_ : ow_I, y_ = ow_u I1 (m + 1) 15 (I1 (m + 1) 15 + (nI 99999 - (M_of m b 0 I))) := ⟨_, rfl⟩
    replace hk := lt_k (P := fun r : Int32 × ow_I => K (some (.int ((r).1))) (S, (r).2, V, z)) hI2 hk
    refine or_nmI hI2 ?_
    refine or_aload_n E rfl dX11_fundNow_49 ?_
    refine or_iload_n E rfl dX11_fundNow_50 ?_
    refine or_iconst (v := nI 0) E rfl dX11_fundNow_51 ?_
    refine or_cV2r (cM_of  h_m (by omega)) E lk_11_86 dX11_fundNow_52 h_m.1 rfl rfl (by decide) (by decide) ⟨Nat.le_refl _, Nat.le_refl _⟩ (Nat.le_of_ble_eq_true rfl) ?_
    try dsimp only at hk
    exact or_iret E F dX11_fundNow_55 (Nat.le_refl _) (Nat.le_refl _) hk
  · replace hk := ite_n (P := fun r : Int32 × ow_I => K (some (.int ((r).1))) (S, (r).2, V, z)) q12 hk
    refine or_iload_n E rfl dX11_fundNow_15 ?_
    refine or_goto 20 E dX11_fundNow_16 rfl ?_
    refine or_istore E dX11_fundNow_20 (by decide) ?_
    refine or_aload_n E rfl dX11_fundNow_22 ?_
    refine or_iload_n E rfl dX11_fundNow_23 ?_
    refine or_iconst (v := nI 0) E rfl dX11_fundNow_24 ?_
    refine or_aload_n E rfl dX11_fundNow_25 ?_
    refine or_iload_n E rfl dX11_fundNow_26 ?_
    refine or_iconst (v := nI 0) E rfl dX11_fundNow_27 ?_
    refine or_cV2r (cM_of  h_m (by omega)) E lk_11_86 dX11_fundNow_28 h_m.1 rfl rfl (by decide) (by decide) ⟨Nat.le_refl _, Nat.le_refl _⟩ (Nat.le_of_ble_eq_true rfl) ?_
    refine or_iload E rfl dX11_fundNow_31 ?_
    refine or_iadd E dX11_fundNow_33 ?_
    refine or_cV3v (cM_put  h_m (by omega)) E lk_11_70 dX11_fundNow_34 h_m.1 rfl rfl (by decide) (by decide) ⟨Nat.le_refl _, Nat.le_refl _⟩ (Nat.le_of_ble_eq_true rfl) ?_
    obtain ⟨I3, hI3⟩ : ∃ y_ : ow_I, y_ = M_put m b 0 (M_of m b 0 I + x) I := ⟨_, rfl⟩
    replace hk := lt_k (P := fun r : Int32 × ow_I => K (some (.int ((r).1))) (S, (r).2, V, z)) hI3 hk
    refine or_nmI hI3 ?_
    refine or_aload_n E rfl dX11_fundNow_37 ?_
    refine ot_getC E fl_11_7 dX11_fundNow_38 h_m.1 rfl ?_
    refine or_bipush (v := nI 15) E rfl dX11_fundNow_41 ?_
    refine or_dup2 E rfl rfl dX11_fundNow_43 ?_
    refine ot_iald (j := 15) E dX11_fundNow_44 h_m.2.1 rfl rfl (by omega) (Nat.le_of_ble_eq_true rfl) ?_
    refine or_iload E rfl dX11_fundNow_45 ?_
    refine or_iadd E dX11_fundNow_47 ?_
    refine ot_iast (j := 15) E dX11_fundNow_48 h_m.2.1 rfl rfl (by omega) (Nat.le_of_ble_eq_true rfl) ?_
    obtain ⟨I4, hI4⟩ : ∃ y_ : ow_I, y_ = ow_u I3 (m + 1) 15 (I3 (m + 1) 15 + x) := ⟨_, rfl⟩
    replace hk := lt_k (P := fun r : Int32 × ow_I => K (some (.int ((r).1))) (S, (r).2, V, z)) hI4 hk
    refine or_nmI hI4 ?_
    refine or_aload_n E rfl dX11_fundNow_49 ?_
    refine or_iload_n E rfl dX11_fundNow_50 ?_
    refine or_iconst (v := nI 0) E rfl dX11_fundNow_51 ?_
    refine or_cV2r (cM_of  h_m (by omega)) E lk_11_86 dX11_fundNow_52 h_m.1 rfl rfl (by decide) (by decide) ⟨Nat.le_refl _, Nat.le_refl _⟩ (Nat.le_of_ble_eq_true rfl) ?_
    try dsimp only at hk
    exact or_iret E F dX11_fundNow_55 (Nat.le_refl _) (Nat.le_refl _) hk
def M_keep (m : Nat) (b : Nat) (I : ow_I) : ow_I :=
  if tn (I m 2) = 8 then lt (ow_u I m 1 (nI ((tn (I m 1) + 1) % 8))) (fun (I3 : ow_I) => lt (M_copyBlock m b (1 + ((((tn (I m 1) + 1) % 8 + (tn (I m 2))) - 1) % 8)) I3) (fun (I4 : ow_I) => I4)) else lt (ow_u I m 2 (nI (tn (I m 2) + 1))) (fun (I1 : ow_I) => lt (M_copyBlock m b (1 + (((tn (I m 1) + (tn (I m 2) + 1)) - 1) % 8)) I1) (fun (I2 : ow_I) => I2))
set_option maxRecDepth 100000 in
set_option maxHeartbeats 400000 in
theorem cM_keep {S : Nat → Option ow_Sh} {I : ow_I} {V : Nat → Nat → Value} {z : Nat} {m : Nat} {b : Nat} (h_m : md_S S m) (hb : b < 13) (ho : 0 ≤ I m 1) (hob : tn (I m 1) < 8) (hk2 : 0 ≤ I m 2) (hkb : tn (I m 2) ≤ 8) : ow_Cf yX11_keep cX11_keep 2 none 1 [.ref m, .int (nI b)] (S, I, V, z) none (S, M_keep m b I, V, z) := by
  refine ow_Cf.of rfl (Nat.le_of_ble_eq_true rfl) (fun X K E F hk => ?_)
  have E : ow_E X RX11 cX11_keep 2 (ow_rm 1 0 0) := E
  refine or_lv [(0, .ref m), (1, .int (nI b))] rfl ?_
  dsimp only [M_keep] at hk
  refine or_aload_n E rfl dX11_keep_0 ?_
  refine ot_getI E fl_11_57 dX11_keep_1 h_m.1 rfl ?_
  refine or_top (nI_tn hk2).symm ?_
  refine or_bipush (v := nI 8) E rfl dX11_keep_4 ?_
  refine or_icmp_neN 25 E dX11_keep_6 rfl (by omega) (by omega) (fun q6 => ?_) (fun q6 => ?_)
  · replace hk := ite_n (P := fun r : ow_I => K none (S, r, V, z)) q6 hk
    refine or_aload_n E rfl dX11_keep_25 ?_
    refine or_dup E rfl dX11_keep_26 ?_
    refine ot_getI E fl_11_57 dX11_keep_27 h_m.1 rfl ?_
    refine or_top (nI_tn hk2).symm ?_
    refine or_iconst (v := nI 1) E rfl dX11_keep_30 ?_
    refine or_iaddN E dX11_keep_31 ?_
    refine ot_putI E fl_11_57 fw_11_2 dX11_keep_32 h_m.1 rfl ?_
    obtain ⟨I1, hI1⟩ : ∃ y_ : ow_I, y_ = ow_u I m 2 (nI (tn (I m 2) + 1)) := ⟨_, rfl⟩
    replace hk := lt_k (P := fun r : ow_I => K none (S, r, V, z)) hI1 hk
    refine or_nmI hI1 ?_
    refine or_aload_n E rfl dX11_keep_35 ?_
    refine or_iload_n E rfl dX11_keep_36 ?_
    refine or_iconst (v := nI 1) E rfl dX11_keep_37 ?_
    refine or_aload_n E rfl dX11_keep_38 ?_
    refine ot_getI E fl_11_60 dX11_keep_39 h_m.1 rfl ?_
    refine or_top (y := nI (tn (I m 1))) (by subst hI1; rw [ow_u_k _ _ _ _ (by decide), nI_tn ho]) ?_
    refine or_aload_n E rfl dX11_keep_42 ?_
    refine ot_getI E fl_11_57 dX11_keep_43 h_m.1 rfl ?_
    refine or_top (y := nI (tn (I m 2) + 1)) (by subst hI1; rw [ow_u_s]) ?_
    refine or_iaddN E dX11_keep_46 ?_
    refine or_iconst (v := nI 1) E rfl dX11_keep_47 ?_
    refine or_isubN E dX11_keep_48 (by omega) ?_
    refine or_bipush (v := nI 8) E rfl dX11_keep_49 ?_
    refine or_iremN E dX11_keep_51 (by omega) (by omega) (by omega) ?_
    refine or_iaddN E dX11_keep_52 ?_
    refine or_cV2v (cM_copyBlock  h_m (by omega) (by omega)) E lk_11_63 dX11_keep_53 h_m.1 rfl rfl (by decide) (by decide) ⟨Nat.le_refl _, Nat.le_refl _⟩ (Nat.le_of_ble_eq_true rfl) ?_
    obtain ⟨I2, hI2⟩ : ∃ y_ : ow_I, y_ = M_copyBlock m b (1 + (((tn (I m 1) + (tn (I m 2) + 1)) - 1) % 8)) I1 := ⟨_, rfl⟩
    replace hk := lt_k (P := fun r : ow_I => K none (S, r, V, z)) hI2 hk
    refine or_nmI hI2 ?_
    exact or_vret E F dX11_keep_56 (Nat.le_refl _) (Nat.le_refl _) hk
  · replace hk := ite_p (P := fun r : ow_I => K none (S, r, V, z)) q6 hk
    refine or_aload_n E rfl dX11_keep_9 ?_
    refine or_aload_n E rfl dX11_keep_10 ?_
    refine ot_getI E fl_11_60 dX11_keep_11 h_m.1 rfl ?_
    refine or_top (nI_tn ho).symm ?_
    refine or_iconst (v := nI 1) E rfl dX11_keep_14 ?_
    refine or_iaddN E dX11_keep_15 ?_
    refine or_bipush (v := nI 8) E rfl dX11_keep_16 ?_
    refine or_iremN E dX11_keep_18 (by omega) (by omega) (by omega) ?_
    refine ot_putI E fl_11_60 fw_11_1 dX11_keep_19 h_m.1 rfl ?_
    obtain ⟨I3, hI3⟩ : ∃ y_ : ow_I, y_ = ow_u I m 1 (nI ((tn (I m 1) + 1) % 8)) := ⟨_, rfl⟩
    replace hk := lt_k (P := fun r : ow_I => K none (S, r, V, z)) hI3 hk
    refine or_nmI hI3 ?_
    refine or_goto 35 E dX11_keep_22 rfl ?_
    refine or_aload_n E rfl dX11_keep_35 ?_
    refine or_iload_n E rfl dX11_keep_36 ?_
    refine or_iconst (v := nI 1) E rfl dX11_keep_37 ?_
    refine or_aload_n E rfl dX11_keep_38 ?_
    refine ot_getI E fl_11_60 dX11_keep_39 h_m.1 rfl ?_
    refine or_top (y := nI ((tn (I m 1) + 1) % 8)) (by subst hI3; rw [ow_u_s]) ?_
    refine or_aload_n E rfl dX11_keep_42 ?_
    refine ot_getI E fl_11_57 dX11_keep_43 h_m.1 rfl ?_
    refine or_top (y := nI (tn (I m 2))) (by subst hI3; rw [ow_u_k _ _ _ _ (by decide), nI_tn hk2]) ?_
    refine or_iaddN E dX11_keep_46 ?_
    refine or_iconst (v := nI 1) E rfl dX11_keep_47 ?_
    refine or_isubN E dX11_keep_48 (by omega) ?_
    refine or_bipush (v := nI 8) E rfl dX11_keep_49 ?_
    refine or_iremN E dX11_keep_51 (by omega) (by omega) (by omega) ?_
    refine or_iaddN E dX11_keep_52 ?_
    refine or_cV2v (cM_copyBlock  h_m (by omega) (by omega)) E lk_11_63 dX11_keep_53 h_m.1 rfl rfl (by decide) (by decide) ⟨Nat.le_refl _, Nat.le_refl _⟩ (Nat.le_of_ble_eq_true rfl) ?_
    obtain ⟨I4, hI4⟩ : ∃ y_ : ow_I, y_ = M_copyBlock m b (1 + ((((tn (I m 1) + 1) % 8 + (tn (I m 2))) - 1) % 8)) I3 := ⟨_, rfl⟩
    replace hk := lt_k (P := fun r : ow_I => K none (S, r, V, z)) hI4 hk
    refine or_nmI hI4 ?_
    exact or_vret E F dX11_keep_56 (Nat.le_refl _) (Nat.le_refl _) hk
