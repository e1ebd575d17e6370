theorem wb_E {m b : Nat} {x : Int32} {I : ow_I} (h : 0 ≤ M_ofBarrel m b 0 I ∧ tn (M_ofBarrel m b 0 I) ≤ 9) : 0 ≤ M_ofBarrel m b 0 (M_emitNumber m x I) ∧ tn (M_ofBarrel m b 0 (M_emitNumber m x I)) ≤ 9 := by
  have e : M_ofBarrel m b 0 (M_emitNumber m x I) = M_ofBarrel m b 0 I := by
    show M_emitNumber m x I (m + 1) _ = I (m + 1) _
    rw [rr_en (by omega) (by omega)]
  rw [e]
  exact h
theorem wb_E2 {m b : Nat} {x c : Int32} {I : ow_I} (h : 0 ≤ M_ofBarrel m b 0 I ∧ tn (M_ofBarrel m b 0 I) ≤ 9) : 0 ≤ M_ofBarrel m b 0 (M_emitNumber m x (M_emit m c I)) ∧ tn (M_ofBarrel m b 0 (M_emitNumber m x (M_emit m c I))) ≤ 9 := by
  have e : M_ofBarrel m b 0 (M_emitNumber m x (M_emit m c I)) = M_ofBarrel m b 0 I := by
    show M_emitNumber m x (M_emit m c I) (m + 1) _ = I (m + 1) _
    rw [rr_en (by omega) (by omega), rr_em (by omega) (by omega)]
  rw [e]
  exact h
theorem wb_1 {m : Nat} {x : Int32} {I : ow_I} (hw : 0 ≤ I m 17) (hb : tn (I m 17) + 10 ≤ 200) : 0 ≤ M_emitNumber m x I m 17 ∧ tn (M_emitNumber m x I m 17) ≤ tn (I m 17) + 10 := en_17 i32_10 (by decide) hw hb
theorem wb_2 {m : Nat} {x c : Int32} {I : ow_I} (hw : 0 ≤ I m 17) (hb : tn (I m 17) + 11 ≤ 200) : 0 ≤ M_emitNumber m x (M_emit m c I) m 17 ∧ tn (M_emitNumber m x (M_emit m c I) m 17) ≤ tn (I m 17) + 11 := by
  have e := @em_17 m c I hw (by omega)
  have r := @wb_1 m x (M_emit m c I) e.1 (by rw [e.2]; omega)
  exact ⟨r.1, by omega⟩
theorem wq_1 {m k : Nat} {I : ow_I} (hk : k < 20) (hw : 0 ≤ I m 17) (hb : tn (I m 17) + 10 ≤ 200) : 0 ≤ M_emitNumber m (nI k) I m 17 ∧ tn (M_emitNumber m (nI k) I m 17) ≤ tn (I m 17) + 2 := en_17 (D := 2) (by rw [nI_toInt (by omega)]; omega) (by decide) hw hb
theorem wq_2 {m k : Nat} {c : Int32} {I : ow_I} (hk : k < 20) (hw : 0 ≤ I m 17) (hb : tn (I m 17) + 11 ≤ 200) : 0 ≤ M_emitNumber m (nI k) (M_emit m c I) m 17 ∧ tn (M_emitNumber m (nI k) (M_emit m c I) m 17) ≤ tn (I m 17) + 3 := by
  have e := @em_17 m c I hw (by omega)
  have r := @wq_1 m k (M_emit m c I) hk e.1 (by rw [e.2]; omega)
  exact ⟨r.1, by omega⟩
theorem lk_11_326 : ow_lv RX11 326 yX11_emitNumber cX11_emitNumber 3 none 1 := ⟨ow_T_in 2228 (by decide +kernel) (by decide +kernel), ow_T_in 2230 (by decide +kernel) (by decide +kernel), ow_T_sel 110 (by decide +kernel) (by decide +kernel), ow_T_in 19 (by decide +kernel) (by decide +kernel), ow_T_in 2231 (by decide +kernel) (by decide +kernel), ⟨by decide +kernel, by decide +kernel, by decide +kernel⟩⟩
def M_writeBarrel_L17 (m : Nat) (b : Int32) : Nat → ow_I → Nat → Int32 × ow_I
  | 0, I, _ => (default, I)
  | n + 1, I, e => if tn (M_ofBarrel m (tn b) 0 I) ≤ e then if M_ofBarrel m (tn b) 12 I = nI (1 + 0) then lt (M_emit m (nI 63) I) (fun (I3 : ow_I) => (I3 m 17, I3)) else if M_ofBarrel m (tn b) 12 I = nI (1 + 1) then lt (M_emit m (nI 61) I) (fun (I4 : ow_I) => lt (M_emitNumber m (M_ofBarrel m (tn b) 14 I4) I4) (fun (I5 : ow_I) => (I5 m 17, I5))) else if M_ofBarrel m (tn b) 12 I = nI (1 + 2) then lt (M_emit m (nI 120) I) (fun (I6 : ow_I) => (I6 m 17, I6)) else (I m 17, I) else if nI e ≤ 0 then lt (M_emitNumber m (M_lengthOf m (tn b) e I) I) (fun (I7 : ow_I) => M_writeBarrel_L17 m b n I7 (e + 1)) else lt (M_emit m (nI 44) I) (fun (I8 : ow_I) => lt (M_emitNumber m (M_lengthOf m (tn b) e I8) I8) (fun (I9 : ow_I) => M_writeBarrel_L17 m b n I9 (e + 1)))
def M_writeBarrel (m : Nat) (b : Int32) (I : ow_I) : Int32 × ow_I :=
  lt (M_lacksBarrel m b I) (fun (r1 : Bool × ow_I) => if r1.1 then (nI 0, r1.2) else lt (ow_u r1.2 m 17 (nI 0)) (fun (I2 : ow_I) => M_writeBarrel_L17 m b 10 I2 0))
set_option maxRecDepth 100000 in
set_option maxHeartbeats 400000 in
theorem cM_writeBarrel {S : Nat → Option ow_Sh} {I : ow_I} {V : Nat → Nat → Value} {z : Nat} {m : Nat} {b : Int32} (h_m : md_S S m) (hv : md_V (I (m + 1))) : ow_Cf yX11_writeBarrel cX11_writeBarrel 3 (some .int) 2 [.ref m, .int b] (S, I, V, z) (some (.int ((M_writeBarrel m b I).1))) (S, (M_writeBarrel m b I).2, V, z) := by
  refine ow_Cf.of rfl (Nat.le_of_ble_eq_true rfl) (fun X K E F hk => ?_)
  have E : ow_E X RX11 cX11_writeBarrel 3 (ow_rm 2 0 0) := E
  refine or_lv [(0, .ref m), (1, .int b)] rfl ?_
  have L17 : ∀ (n : Nat) (I : ow_I) (e : Nat) (hE : 0 ≤ M_ofBarrel m (tn b) 0 I ∧ tn (M_ofBarrel m (tn b) 0 I) ≤ 9) (hB : 0 ≤ b ∧ tn b < 20) (hi : e ≤ 9) (hw : 0 ≤ I m 17) (hwb : tn (I m 17) ≤ 11 * e) (hm : 9 - e < n) (hk : K (some (.int ((M_writeBarrel_L17 m b n I e).1))) (S, (M_writeBarrel_L17 m b n I e).2, V, z)), ow_W X 0 0 (S, I, V, z) 17 [(0, .ref m), (1, .int b), (2, .int (nI e))] [] := by
    intro n
    induction n with
    | zero => intro I e hE hB hi hw hwb hm; omega
    | succ n ih =>
      intro I e hE hB hi hw hwb hm hk
      dsimp only [M_writeBarrel_L17] at hk
      refine or_iload_n E rfl dX11_writeBarrel_17 ?_
      refine or_aload_n E rfl dX11_writeBarrel_18 ?_
      refine or_iload_n E rfl dX11_writeBarrel_19 ?_
      refine or_top (nI_tn hB.1).symm ?_
      refine or_iconst (v := nI 0) E rfl dX11_writeBarrel_20 ?_
      refine or_cV2r (cM_ofBarrel  h_m (by omega)) E lk_11_66 dX11_writeBarrel_21 h_m.1 rfl rfl (by decide) (by decide) ⟨Nat.le_refl _, Nat.le_refl _⟩ (Nat.le_of_ble_eq_true rfl) ?_
      refine or_top (nI_tn hE.1).symm ?_
      refine or_icmp_geN 53 E dX11_writeBarrel_24 rfl (by omega) (by omega) (fun q24 => ?_) (fun q24 => ?_)
      · replace hk := ite_p (P := fun r : Int32 × ow_I => K (some (.int ((r).1))) (S, (r).2, V, z)) q24 hk
        refine or_aload_n E rfl dX11_writeBarrel_53 ?_
        refine or_iload_n E rfl dX11_writeBarrel_54 ?_
        refine or_top (nI_tn hB.1).symm ?_
        refine or_bipush (v := nI 12) E rfl dX11_writeBarrel_55 ?_
        refine or_cV2r (cM_ofBarrel  h_m (by omega)) E lk_11_66 dX11_writeBarrel_57 h_m.1 rfl rfl (by decide) (by decide) ⟨Nat.le_refl _, Nat.le_refl _⟩ (Nat.le_of_ble_eq_true rfl) ?_
        refine or_tab3 (lo := 1) 88 97 117 126 E dX11_writeBarrel_60 (by decide) rfl rfl rfl rfl (fun q60_0 => ?_) (fun q60_0 q60_1 => ?_) (fun q60_0 q60_1 q60_2 => ?_) (fun q60_0 q60_1 q60_2 => ?_)
        · replace hk := ite_p (P := fun r : Int32 × ow_I => K (some (.int ((r).1))) (S, (r).2, V, z)) q60_0 hk
          refine or_aload_n E rfl dX11_writeBarrel_88 ?_
          refine or_bipush (v := nI 63) E rfl dX11_writeBarrel_89 ?_
          refine or_cV1v (cM_emit  h_m hw (by omega)) E lk_11_323 dX11_writeBarrel_91 h_m.1 rfl rfl (by decide) (by decide) ⟨Nat.le_refl _, Nat.le_refl _⟩ (Nat.le_of_ble_eq_true rfl) ?_
          obtain ⟨I3, hI3⟩ : ∃ y_ : ow_I, y_ = M_emit m (nI 63) I := ⟨_, rfl⟩
          replace hk := lt_k (P := fun r : Int32 × ow_I => K (some (.int ((r).1))) (S, (r).2, V, z)) hI3 hk
          refine or_nmI hI3 ?_
          refine or_goto 126 E dX11_writeBarrel_94 rfl ?_
          refine or_aload_n E rfl dX11_writeBarrel_126 ?_
          refine ot_getI E fl_11_320 dX11_writeBarrel_127 h_m.1 rfl ?_
          try dsimp only at hk
          exact or_iret E F dX11_writeBarrel_130 (Nat.le_refl _) (Nat.le_refl _) hk
        · replace hk := ite_n (P := fun r : Int32 × ow_I => K (some (.int ((r).1))) (S, (r).2, V, z)) q60_0 hk; replace hk := ite_p (P := fun r : Int32 × ow_I => K (some (.int ((r).1))) (S, (r).2, V, z)) q60_1 hk
          refine or_aload_n E rfl dX11_writeBarrel_97 ?_
          refine or_bipush (v := nI 61) E rfl dX11_writeBarrel_98 ?_
          refine or_cV1v (cM_emit  h_m hw (by omega)) E lk_11_323 dX11_writeBarrel_100 h_m.1 rfl rfl (by decide) (by decide) ⟨Nat.le_refl _, Nat.le_refl _⟩ (Nat.le_of_ble_eq_true rfl) ?_
          obtain ⟨I4, hI4⟩ : ∃ y_ : ow_I, y_ = M_emit m (nI 61) I := ⟨_, rfl⟩
          replace hk := lt_k (P := fun r : Int32 × ow_I => K (some (.int ((r).1))) (S, (r).2, V, z)) hI4 hk
          refine or_nmI hI4 ?_
          refine or_aload_n E rfl dX11_writeBarrel_103 ?_
          refine or_aload_n E rfl dX11_writeBarrel_104 ?_
          refine or_iload_n E rfl dX11_writeBarrel_105 ?_
          refine or_top (nI_tn (by subst hI4; exact hB.1)).symm ?_
          refine or_bipush (v := nI 14) E rfl dX11_writeBarrel_106 ?_
          refine or_cV2r (cM_ofBarrel  h_m (by subst hI4; omega)) E lk_11_66 dX11_writeBarrel_108 h_m.1 rfl rfl (by decide) (by decide) ⟨Nat.le_refl _, Nat.le_refl _⟩ (Nat.le_of_ble_eq_true rfl) ?_
          refine or_cV1v (cM_emitNumber  h_m (by subst hI4; exact (em_17 hw (by omega)).1) (by subst hI4; rw [(em_17 hw (by omega)).2]; omega)) E lk_11_326 dX11_writeBarrel_111 h_m.1 rfl rfl (by decide) (by decide) ⟨Nat.le_refl _, Nat.le_refl _⟩ (Nat.le_of_ble_eq_true rfl) ?_
          obtain ⟨I5, hI5⟩ : ∃ y_ : ow_I, y_ = M_emitNumber m (M_ofBarrel m (tn b) 14 I4) I4 := ⟨_, rfl⟩
          replace hk := lt_k (P := fun r : Int32 × ow_I => K (some (.int ((r).1))) (S, (r).2, V, z)) hI5 hk
          refine or_nmI hI5 ?_
          refine or_goto 126 E dX11_writeBarrel_114 rfl ?_
          refine or_aload_n E rfl dX11_writeBarrel_126 ?_
          refine ot_getI E fl_11_320 dX11_writeBarrel_127 h_m.1 rfl ?_
          try dsimp only at hk
          exact or_iret E F dX11_writeBarrel_130 (Nat.le_refl _) (Nat.le_refl _) hk
        · replace hk := ite_n (P := fun r : Int32 × ow_I => K (some (.int ((r).1))) (S, (r).2, V, z)) q60_0 hk; replace hk := ite_n (P := fun r : Int32 × ow_I => K (some (.int ((r).1))) (S, (r).2, V, z)) q60_1 hk; replace hk := ite_p (P := fun r : Int32 × ow_I => K (some (.int ((r).1))) (S, (r).2, V, z)) q60_2 hk
          refine or_aload_n E rfl dX11_writeBarrel_117 ?_
          refine or_bipush (v := nI 120) E rfl dX11_writeBarrel_118 ?_
          refine or_cV1v (cM_emit  h_m hw (by omega)) E lk_11_323 dX11_writeBarrel_120 h_m.1 rfl rfl (by decide) (by decide) ⟨Nat.le_refl _, Nat.le_refl _⟩ (Nat.le_of_ble_eq_true rfl) ?_
          obtain ⟨I6, hI6⟩ : ∃ y_ : ow_I, y_ = M_emit m (nI 120) I := ⟨_, rfl⟩
          replace hk := lt_k (P := fun r : Int32 × ow_I => K (some (.int ((r).1))) (S, (r).2, V, z)) hI6 hk
          refine or_nmI hI6 ?_
          refine or_goto 126 E dX11_writeBarrel_123 rfl ?_
          refine or_aload_n E rfl dX11_writeBarrel_126 ?_
          refine ot_getI E fl_11_320 dX11_writeBarrel_127 h_m.1 rfl ?_
          try dsimp only at hk
          exact or_iret E F dX11_writeBarrel_130 (Nat.le_refl _) (Nat.le_refl _) hk
        · replace hk := ite_n (P := fun r : Int32 × ow_I => K (some (.int ((r).1))) (S, (r).2, V, z)) q60_0 hk; replace hk := ite_n (P := fun r : Int32 × ow_I => K (some (.int ((r).1))) (S, (r).2, V, z)) q60_1 hk; replace hk := ite_n (P := fun r : Int32 × ow_I => K (some (.int ((r).1))) (S, (r).2, V, z)) q60_2 hk
          refine or_aload_n E rfl dX11_writeBarrel_126 ?_
          refine ot_getI E fl_11_320 dX11_writeBarrel_127 h_m.1 rfl ?_
          try dsimp only at hk
          exact or_iret E F dX11_writeBarrel_130 (Nat.le_refl _) (Nat.le_refl _) hk
      · replace hk := ite_n (P := fun r : Int32 × ow_I => K (some (.int ((r).1))) (S, (r).2, V, z)) q24 hk
        refine or_iload_n E rfl dX11_writeBarrel_27 ?_
        refine or_if_le 37 E dX11_writeBarrel_28 rfl (fun q28 => ?_) (fun q28 => ?_)
        · replace hk := ite_p (P := fun r : Int32 × ow_I => K (some (.int ((r).1))) (S, (r).2, V, z)) q28 hk
          refine or_aload_n E rfl dX11_writeBarrel_37 ?_
          refine or_aload_n E rfl dX11_writeBarrel_38 ?_
          refine or_iload_n E rfl dX11_writeBarrel_39 ?_
          refine or_top (nI_tn hB.1).symm ?_
          refine or_iload_n E rfl dX11_writeBarrel_40 ?_
          refine or_cV2r (cM_lengthOf  h_m (by omega)) E lk_11_80 dX11_writeBarrel_41 h_m.1 rfl rfl (by decide) (by decide) ⟨Nat.le_refl _, Nat.le_refl _⟩ (Nat.le_of_ble_eq_true rfl) ?_
          refine or_cV1v (cM_emitNumber  h_m hw (by omega)) E lk_11_326 dX11_writeBarrel_44 h_m.1 rfl rfl (by decide) (by decide) ⟨Nat.le_refl _, Nat.le_refl _⟩ (Nat.le_of_ble_eq_true rfl) ?_
          obtain ⟨I7, hI7⟩ : ∃ y_ : ow_I, y_ = M_emitNumber m (M_lengthOf m (tn b) e I) I := ⟨_, rfl⟩
          replace hk := lt_k (P := fun r : Int32 × ow_I => K (some (.int ((r).1))) (S, (r).2, V, z)) hI7 hk
          refine or_nmI hI7 ?_
          refine or_iincN (c := 1) E dX11_writeBarrel_47 rfl rfl (by decide) ?_
          refine or_goto 17 E dX11_writeBarrel_50 rfl ?_
          refine or_lv _ ?_ (ih _ _ (by subst hI7; exact (wb_E hE)) (by subst hI7; exact hB) (by subst hI7; omega) (by subst hI7; exact (wb_1 hw (by omega)).1) (by subst hI7; have := (wb_1 (x := M_lengthOf m (tn b) e I) hw (by omega)).2; omega) (by omega) hk)
          rfl
        · replace hk := ite_n (P := fun r : Int32 × ow_I => K (some (.int ((r).1))) (S, (r).2, V, z)) q28 hk
          refine or_aload_n E rfl dX11_writeBarrel_31 ?_
          refine or_bipush (v := nI 44) E rfl dX11_writeBarrel_32 ?_
          refine or_cV1v (cM_emit  h_m hw (by omega)) E lk_11_323 dX11_writeBarrel_34 h_m.1 rfl rfl (by decide) (by decide) ⟨Nat.le_refl _, Nat.le_refl _⟩ (Nat.le_of_ble_eq_true rfl) ?_
          obtain ⟨I8, hI8⟩ : ∃ y_ : ow_I, y_ = M_emit m (nI 44) I := ⟨_, rfl⟩
          replace hk := lt_k (P := fun r : Int32 × ow_I => K (some (.int ((r).1))) (S, (r).2, V, z)) hI8 hk
          refine or_nmI hI8 ?_
          refine or_aload_n E rfl dX11_writeBarrel_37 ?_
          refine or_aload_n E rfl dX11_writeBarrel_38 ?_
          refine or_iload_n E rfl dX11_writeBarrel_39 ?_
          refine or_top (nI_tn (by subst hI8; exact hB.1)).symm ?_
          refine or_iload_n E rfl dX11_writeBarrel_40 ?_
          refine or_cV2r (cM_lengthOf  h_m (by subst hI8; omega)) E lk_11_80 dX11_writeBarrel_41 h_m.1 rfl rfl (by decide) (by decide) ⟨Nat.le_refl _, Nat.le_refl _⟩ (Nat.le_of_ble_eq_true rfl) ?_
          refine or_cV1v (cM_emitNumber  h_m (by subst hI8; exact (em_17 hw (by omega)).1) (by subst hI8; rw [(em_17 hw (by omega)).2]; omega)) E lk_11_326 dX11_writeBarrel_44 h_m.1 rfl rfl (by decide) (by decide) ⟨Nat.le_refl _, Nat.le_refl _⟩ (Nat.le_of_ble_eq_true rfl) ?_
          obtain ⟨I9, hI9⟩ : ∃ y_ : ow_I, y_ = M_emitNumber m (M_lengthOf m (tn b) e I8) I8 := ⟨_, rfl⟩
          replace hk := lt_k (P := fun r : Int32 × ow_I => K (some (.int ((r).1))) (S, (r).2, V, z)) hI9 hk
          refine or_nmI hI9 ?_
          refine or_iincN (c := 1) E dX11_writeBarrel_47 rfl rfl (by decide) ?_
          refine or_goto 17 E dX11_writeBarrel_50 rfl ?_
          refine or_lv _ ?_ (ih _ _ (by subst hI9 hI8; exact (wb_E2 hE)) (by subst hI9 hI8; exact hB) (by subst hI9 hI8; omega) (by subst hI9 hI8; exact (wb_2 hw (by omega)).1) (by subst hI9 hI8; have := (wb_2 (c := nI 44) (x := M_lengthOf m (tn b) e (M_emit m (nI 44) I)) hw (by omega)).2; omega) (by omega) hk)
          rfl
  dsimp only [M_writeBarrel] at hk
  refine or_aload_n E rfl dX11_writeBarrel_0 ?_
  refine or_iload_n E rfl dX11_writeBarrel_1 ?_
  refine or_cV1r (cM_lacksBarrel  h_m ) E lk_11_308 dX11_writeBarrel_2 h_m.1 rfl rfl (by decide) (by decide) ⟨Nat.le_refl _, Nat.le_refl _⟩ (Nat.le_of_ble_eq_true rfl) ?_
  obtain ⟨r1, hr1⟩ : ∃ y_ : Bool × ow_I, y_ = M_lacksBarrel m b I := ⟨_, rfl⟩
  replace hk := lt_k (P := fun r : Int32 × ow_I => K (some (.int ((r).1))) (S, (r).2, V, z)) hr1 hk
  refine or_nmZ hr1 ?_
  refine or_if_eqZ 10 E dX11_writeBarrel_5 rfl (fun q5 => ?_) (fun q5 => ?_)
  · replace hk := ite_n (P := fun r : Int32 × ow_I => K (some (.int ((r).1))) (S, (r).2, V, z)) (bz_neg q5) hk
    refine or_aload_n E rfl dX11_writeBarrel_10 ?_
    refine or_iconst (v := nI 0) E rfl dX11_writeBarrel_11 ?_
    refine ot_putI E fl_11_320 fw_11_17 dX11_writeBarrel_12 h_m.1 rfl ?_
    obtain ⟨I2, hI2⟩ : ∃ y_ : ow_I, y_ = ow_u r1.2 m 17 (nI 0) := ⟨_, rfl⟩
    replace hk := lt_k (P := fun r : Int32 × ow_I => K (some (.int ((r).1))) (S, (r).2, V, z)) hI2 hk
    refine or_nmI hI2 ?_
    refine or_iconst (v := nI 0) E rfl dX11_writeBarrel_15 ?_
    refine or_istore_n E dX11_writeBarrel_16 (by decide) ?_
    refine or_lv _ ?_ (L17 10 _ _ (by subst hI2 hr1; have h := lB_e hv q5; exact ⟨by rw [show M_ofBarrel m (tn b) 0 (ow_u (M_lacksBarrel m b I).2 m 17 (nI 0)) = M_ofBarrel m (tn b) 0 (M_lacksBarrel m b I).2 from by show ow_u _ m 17 _ (m + 1) _ = _; rw [u_A]; rfl]; exact h.1, by rw [show M_ofBarrel m (tn b) 0 (ow_u (M_lacksBarrel m b I).2 m 17 (nI 0)) = M_ofBarrel m (tn b) 0 (M_lacksBarrel m b I).2 from by show ow_u _ m 17 _ (m + 1) _ = _; rw [u_A]; rfl]; exact h.2.2.1⟩) (by subst hI2 hr1; exact ⟨(lB_1 hv q5).1, (lB_e hv q5).2.2.2⟩) (by decide) (by subst hI2 hr1; rw [ow_u_s]; decide) (by subst hI2 hr1; rw [ow_u_s, tn_nI (by decide)]; omega) (by decide) hk)
    rfl
  · replace hk := ite_p (P := fun r : Int32 × ow_I => K (some (.int ((r).1))) (S, (r).2, V, z)) q5 hk
    refine or_iconst (v := nI 0) E rfl dX11_writeBarrel_8 ?_
    try dsimp only at hk
    exact or_iret E F dX11_writeBarrel_9 (Nat.le_refl _) (Nat.le_refl _) hk
