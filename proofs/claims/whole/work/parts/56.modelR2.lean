theorem wq_x {m : Nat} {x : Int32} {I : ow_I} (hx : 0 ≤ x ∧ tn x < 20) (hw : 0 ≤ I m 17) (hb : tn (I m 17) + 10 ≤ 200) : 0 ≤ M_emitNumber m x I m 17 ∧ tn (M_emitNumber m x I m 17) ≤ tn (I m 17) + 2 := by
  have r := @wq_1 m (tn x) I hx.2 hw hb
  rw [nI_tn hx.1] at r
  exact r
theorem wq_y {m : Nat} {x c : Int32} {I : ow_I} (hx : 0 ≤ x ∧ tn x < 20) (hw : 0 ≤ I m 17) (hb : tn (I m 17) + 11 ≤ 200) : 0 ≤ M_emitNumber m x (M_emit m c I) m 17 ∧ tn (M_emitNumber m x (M_emit m c I) m 17) ≤ tn (I m 17) + 3 := by
  have r := @wq_2 m (tn x) c I hx.2 hw hb
  rw [nI_tn hx.1] at r
  exact r
theorem wq_q {A : Nat → Int32} (hv : md_V A) {i : Nat} (h : i < tn (A 12)) : 0 ≤ A (16 + i) ∧ tn (A (16 + i)) < 20 := by
  have q := hv.2.2.2.2.2.2.1 i h
  have := hv.2.2.1
  exact ⟨q.1, by omega⟩
def M_writeQueue_L12 (m : Nat) : Nat → ow_I → Nat → Int32 × ow_I
  | 0, I, _ => (default, I)
  | n + 1, I, i => if tn (I (m + 1) 12) ≤ i then (I m 17, I) else if nI i ≤ 0 then lt (M_emitNumber m (I (m + 1) (16 + i)) I) (fun (I3 : ow_I) => M_writeQueue_L12 m n I3 (i + 1)) else lt (M_emit m (nI 44) I) (fun (I4 : ow_I) => lt (M_emitNumber m (I4 (m + 1) (16 + i)) I4) (fun (I5 : ow_I) => M_writeQueue_L12 m n I5 (i + 1)))
def M_writeQueue (m : Nat) (I : ow_I) : Int32 × ow_I :=
  lt (ow_u I m 18 (nI 0)) (fun (I1 : ow_I) => lt (ow_u I1 m 17 (nI 0)) (fun (I2 : ow_I) => M_writeQueue_L12 m 21 I2 0))
set_option maxRecDepth 100000 in
set_option maxHeartbeats 400000 in
theorem cM_writeQueue {S : Nat → Option ow_Sh} {I : ow_I} {V : Nat → Nat → Value} {z : Nat} {m : Nat} (h_m : md_S S m) (hv : md_V (I (m + 1))) : ow_Cf yX11_writeQueue cX11_writeQueue 2 (some .int) 2 [.ref m] (S, I, V, z) (some (.int ((M_writeQueue m I).1))) (S, (M_writeQueue m I).2, V, z) := by
  refine ow_Cf.of rfl (Nat.le_of_ble_eq_true rfl) (fun X K E F hk => ?_)
  have E : ow_E X RX11 cX11_writeQueue 2 (ow_rm 2 0 0) := E
  refine or_lv [(0, .ref m)] rfl ?_
  have L12 : ∀ (n : Nat) (I : ow_I) (i : Nat) (hv : md_V (I (m + 1))) (hi : i ≤ 20) (hw : 0 ≤ I m 17) (hwb : tn (I m 17) ≤ 3 * i) (hm : 20 - i < n) (hk : K (some (.int ((M_writeQueue_L12 m n I i).1))) (S, (M_writeQueue_L12 m n I i).2, V, z)), ow_W X 0 0 (S, I, V, z) 12 [(0, .ref m), (1, .int (nI i))] [] := by
    intro n
    induction n with
    | zero => intro I i hv hi hw hwb hm; omega
    | succ n ih =>
      intro I i hv hi hw hwb hm hk
      dsimp only [M_writeQueue_L12] at hk
      have h12 := hv.2.2.2.2.2.1.2
      refine or_iload_n E rfl dX11_writeQueue_12 ?_
      refine or_aload_n E rfl dX11_writeQueue_13 ?_
      refine ot_getC E fl_11_7 dX11_writeQueue_14 h_m.1 rfl ?_
      refine or_bipush (v := nI 12) E rfl dX11_writeQueue_17 ?_
      refine ot_iald (j := 12) E dX11_writeQueue_19 h_m.2.1 rfl rfl (by omega) (Nat.le_of_ble_eq_true rfl) ?_
      refine or_top (nI_tn hv.2.2.2.2.2.1.1).symm ?_
      refine or_icmp_geN 52 E dX11_writeQueue_20 rfl (by omega) (by omega) (fun q20 => ?_) (fun q20 => ?_)
      · replace hk := ite_p (P := fun r : Int32 × ow_I => K (some (.int ((r).1))) (S, (r).2, V, z)) q20 hk
        refine or_aload_n E rfl dX11_writeQueue_52 ?_
        refine ot_getI E fl_11_320 dX11_writeQueue_53 h_m.1 rfl ?_
        try dsimp only at hk
        exact or_iret E F dX11_writeQueue_56 (Nat.le_refl _) (Nat.le_refl _) hk
      · replace hk := ite_n (P := fun r : Int32 × ow_I => K (some (.int ((r).1))) (S, (r).2, V, z)) q20 hk
        refine or_iload_n E rfl dX11_writeQueue_23 ?_
        refine or_if_le 33 E dX11_writeQueue_24 rfl (fun q24 => ?_) (fun q24 => ?_)
        · replace hk := ite_p (P := fun r : Int32 × ow_I => K (some (.int ((r).1))) (S, (r).2, V, z)) q24 hk
          refine or_aload_n E rfl dX11_writeQueue_33 ?_
          refine or_aload_n E rfl dX11_writeQueue_34 ?_
          refine ot_getC E fl_11_7 dX11_writeQueue_35 h_m.1 rfl ?_
          refine or_bipush (v := nI 16) E rfl dX11_writeQueue_38 ?_
          refine or_iload_n E rfl dX11_writeQueue_40 ?_
          refine or_iaddN E dX11_writeQueue_41 ?_
          refine ot_iald (j := 16 + i) E dX11_writeQueue_42 h_m.2.1 rfl rfl (by omega) (Nat.le_of_ble_eq_true rfl) ?_
          refine or_cV1v (cM_emitNumber  h_m hw (by omega)) E lk_11_326 dX11_writeQueue_43 h_m.1 rfl rfl (by decide) (by decide) ⟨Nat.le_refl _, Nat.le_refl _⟩ (Nat.le_of_ble_eq_true rfl) ?_
          obtain ⟨I3, hI3⟩ : ∃ y_ : ow_I, y_ = M_emitNumber m (I (m + 1) (16 + i)) I := ⟨_, rfl⟩
          replace hk := lt_k (P := fun r : Int32 × ow_I => K (some (.int ((r).1))) (S, (r).2, V, z)) hI3 hk
          refine or_nmI hI3 ?_
          refine or_iincN (c := 1) E dX11_writeQueue_46 rfl rfl (by decide) ?_
          refine or_goto 12 E dX11_writeQueue_49 rfl ?_
          refine or_lv _ ?_ (ih _ _ (by subst hI3; rw [rr_en (by omega) (by omega)]; exact hv) (by subst hI3; omega) (by subst hI3; exact (wq_x (wq_q (i := i) hv (by omega)) hw (by omega)).1) (by subst hI3; have := (wq_x (wq_q (i := i) hv (by omega)) hw (by omega)).2; omega) (by omega) hk)
          rfl
        · replace hk := ite_n (P := fun r : Int32 × ow_I => K (some (.int ((r).1))) (S, (r).2, V, z)) q24 hk
          refine or_aload_n E rfl dX11_writeQueue_27 ?_
          refine or_bipush (v := nI 44) E rfl dX11_writeQueue_28 ?_
          refine or_cV1v (cM_emit  h_m hw (by omega)) E lk_11_323 dX11_writeQueue_30 h_m.1 rfl rfl (by decide) (by decide) ⟨Nat.le_refl _, Nat.le_refl _⟩ (Nat.le_of_ble_eq_true rfl) ?_
          obtain ⟨I4, hI4⟩ : ∃ y_ : ow_I, y_ = M_emit m (nI 44) I := ⟨_, rfl⟩
          replace hk := lt_k (P := fun r : Int32 × ow_I => K (some (.int ((r).1))) (S, (r).2, V, z)) hI4 hk
          refine or_nmI hI4 ?_
          refine or_aload_n E rfl dX11_writeQueue_33 ?_
          refine or_aload_n E rfl dX11_writeQueue_34 ?_
          refine ot_getC E fl_11_7 dX11_writeQueue_35 h_m.1 rfl ?_
          refine or_bipush (v := nI 16) E rfl dX11_writeQueue_38 ?_
          refine or_iload_n E rfl dX11_writeQueue_40 ?_
          refine or_iaddN E dX11_writeQueue_41 ?_
          refine ot_iald (j := 16 + i) E dX11_writeQueue_42 h_m.2.1 rfl rfl (by subst hI4; omega) (Nat.le_of_ble_eq_true rfl) ?_
          refine or_cV1v (cM_emitNumber  h_m (by subst hI4; exact (em_17 hw (by omega)).1) (by subst hI4; rw [(em_17 hw (by omega)).2]; omega)) E lk_11_326 dX11_writeQueue_43 h_m.1 rfl rfl (by decide) (by decide) ⟨Nat.le_refl _, Nat.le_refl _⟩ (Nat.le_of_ble_eq_true rfl) ?_
          obtain ⟨I5, hI5⟩ : ∃ y_ : ow_I, y_ = M_emitNumber m (I4 (m + 1) (16 + i)) I4 := ⟨_, rfl⟩
          replace hk := lt_k (P := fun r : Int32 × ow_I => K (some (.int ((r).1))) (S, (r).2, V, z)) hI5 hk
          refine or_nmI hI5 ?_
          refine or_iincN (c := 1) E dX11_writeQueue_46 rfl rfl (by decide) ?_
          refine or_goto 12 E dX11_writeQueue_49 rfl ?_
          refine or_lv _ ?_ (ih _ _ (by subst hI5 hI4; rw [rr_en (by omega) (by omega), rr_em (by omega) (by omega)]; exact hv) (by subst hI5 hI4; omega) (by subst hI5 hI4; exact (wq_y (by rw [rr_em (by omega) (by omega)]; exact (wq_q (i := i) hv (by omega))) hw (by omega)).1) (by subst hI5 hI4; have := (wq_y (m := m) (c := nI 44) (I := I) (x := I (m + 1) (16 + i)) (wq_q (i := i) hv (by omega)) hw (by omega)).2; rw [rr_em (by omega) (by omega)]; omega) (by omega) hk)
          rfl
  dsimp only [M_writeQueue] at hk
  refine or_aload_n E rfl dX11_writeQueue_0 ?_
  refine or_iconst (v := nI 0) E rfl dX11_writeQueue_1 ?_
  refine ot_putI E fl_11_54 fw_11_18 dX11_writeQueue_2 h_m.1 rfl ?_
  obtain ⟨I1, hI1⟩ : ∃ y_ : ow_I, y_ = ow_u I m 18 (nI 0) := ⟨_, rfl⟩
  replace hk := lt_k (P := fun r : Int32 × ow_I => K (some (.int ((r).1))) (S, (r).2, V, z)) hI1 hk
  refine or_nmI hI1 ?_
  refine or_aload_n E rfl dX11_writeQueue_5 ?_
  refine or_iconst (v := nI 0) E rfl dX11_writeQueue_6 ?_
  refine ot_putI E fl_11_320 fw_11_17 dX11_writeQueue_7 h_m.1 rfl ?_
  obtain ⟨I2, hI2⟩ : ∃ y_ : ow_I, y_ = ow_u I1 m 17 (nI 0) := ⟨_, rfl⟩
  replace hk := lt_k (P := fun r : Int32 × ow_I => K (some (.int ((r).1))) (S, (r).2, V, z)) hI2 hk
  refine or_nmI hI2 ?_
  refine or_iconst (v := nI 0) E rfl dX11_writeQueue_10 ?_
  refine or_istore_n E dX11_writeQueue_11 (by decide) ?_
  refine or_lv _ ?_ (L12 21 _ _ (by subst hI2 hI1; rw [u_A, u_A]; exact hv) (by decide) (by subst hI2 hI1; rw [ow_u_s]; decide) (by subst hI2 hI1; rw [ow_u_s, tn_nI (by decide)]; omega) (by decide) hk)
  rfl
def M_minutesToHorn_L7 (m : Nat) : Nat → ow_I → Nat → Int32 × ow_I
  | 0, I, _ => (default, I)
  | n + 1, I, i => if tn (I (m + 1) 0) < i then ((-1), I) else if M_blowsIn m (I (m + 1) 5 + (nI i)) I then (nI i, I) else M_minutesToHorn_L7 m n I (i + 1)
def M_minutesToHorn (m : Nat) (I : ow_I) : Int32 × ow_I :=
  lt (ow_u I m 18 (nI 0)) (fun (I1 : ow_I) => M_minutesToHorn_L7 m 61 I1 1)
set_option maxRecDepth 100000 in
set_option maxHeartbeats 400000 in
theorem cM_minutesToHorn {S : Nat → Option ow_Sh} {I : ow_I} {V : Nat → Nat → Value} {z : Nat} {m : Nat} (h_m : md_S S m) (hv : md_V (I (m + 1))) (h0 : 0 ≤ I (m + 1) 0) (h0b : tn (I (m + 1) 0) ≤ 60) : ow_Cf yX11_minutesToHorn cX11_minutesToHorn 2 (some .int) 2 [.ref m] (S, I, V, z) (some (.int ((M_minutesToHorn m I).1))) (S, (M_minutesToHorn m I).2, V, z) := by
  refine ow_Cf.of rfl (Nat.le_of_ble_eq_true rfl) (fun X K E F hk => ?_)
  have E : ow_E X RX11 cX11_minutesToHorn 2 (ow_rm 2 0 0) := E
  refine or_lv [(0, .ref m)] rfl ?_
  have L7 : ∀ (n : Nat) (I : ow_I) (i : Nat) (hv : md_V (I (m + 1))) (h0 : 0 ≤ I (m + 1) 0) (h0b : tn (I (m + 1) 0) ≤ 60) (hi : i ≤ 61) (hm : 61 - i < n) (hk : K (some (.int ((M_minutesToHorn_L7 m n I i).1))) (S, (M_minutesToHorn_L7 m n I i).2, V, z)), ow_W X 0 0 (S, I, V, z) 7 [(0, .ref m), (1, .int (nI i))] [] := by
    intro n
    induction n with
    | zero => intro I i hv h0 h0b hi hm; omega
    | succ n ih =>
      intro I i hv h0 h0b hi hm hk
      dsimp only [M_minutesToHorn_L7] at hk
      refine or_iload_n E rfl dX11_minutesToHorn_7 ?_
      refine or_aload_n E rfl dX11_minutesToHorn_8 ?_
      refine ot_getC E fl_11_7 dX11_minutesToHorn_9 h_m.1 rfl ?_
      refine or_iconst (v := nI 0) E rfl dX11_minutesToHorn_12 ?_
      refine ot_iald (j := 0) E dX11_minutesToHorn_13 h_m.2.1 rfl rfl (by omega) (Nat.le_of_ble_eq_true rfl) ?_
      refine or_top (nI_tn h0).symm ?_
      refine or_icmp_gtN 40 E dX11_minutesToHorn_14 rfl (by omega) (by omega) (fun q14 => ?_) (fun q14 => ?_)
      · replace hk := ite_p (P := fun r : Int32 × ow_I => K (some (.int ((r).1))) (S, (r).2, V, z)) q14 hk
        refine or_iconst (v := -1) E rfl dX11_minutesToHorn_40 ?_
        try dsimp only at hk
        exact or_iret E F dX11_minutesToHorn_41 (Nat.le_refl _) (Nat.le_refl _) hk
      · replace hk := ite_n (P := fun r : Int32 × ow_I => K (some (.int ((r).1))) (S, (r).2, V, z)) q14 hk
        refine or_aload_n E rfl dX11_minutesToHorn_17 ?_
        refine or_aload_n E rfl dX11_minutesToHorn_18 ?_
        refine ot_getC E fl_11_7 dX11_minutesToHorn_19 h_m.1 rfl ?_
        refine or_iconst (v := nI 5) E rfl dX11_minutesToHorn_22 ?_
        refine ot_iald (j := 5) E dX11_minutesToHorn_23 h_m.2.1 rfl rfl (by omega) (Nat.le_of_ble_eq_true rfl) ?_
        refine or_iload_n E rfl dX11_minutesToHorn_24 ?_
        refine or_iadd E dX11_minutesToHorn_25 ?_
        refine or_cV1r (cM_blowsIn  h_m hv.1) E lk_11_141 dX11_minutesToHorn_26 h_m.1 rfl rfl (by decide) (by decide) ⟨Nat.le_refl _, Nat.le_refl _⟩ (Nat.le_of_ble_eq_true rfl) ?_
        refine or_if_eqZ 34 E dX11_minutesToHorn_29 rfl (fun q29 => ?_) (fun q29 => ?_)
        · replace hk := ite_n (P := fun r : Int32 × ow_I => K (some (.int ((r).1))) (S, (r).2, V, z)) (bz_neg q29) hk
          refine or_iincN (c := 1) E dX11_minutesToHorn_34 rfl rfl (by decide) ?_
          refine or_goto 7 E dX11_minutesToHorn_37 rfl ?_
          refine or_lv _ ?_ (ih _ _ hv h0 h0b (by omega) (by omega) hk)
          rfl
        · replace hk := ite_p (P := fun r : Int32 × ow_I => K (some (.int ((r).1))) (S, (r).2, V, z)) q29 hk
          refine or_iload_n E rfl dX11_minutesToHorn_32 ?_
          try dsimp only at hk
          exact or_iret E F dX11_minutesToHorn_33 (Nat.le_refl _) (Nat.le_refl _) hk
  dsimp only [M_minutesToHorn] at hk
  refine or_aload_n E rfl dX11_minutesToHorn_0 ?_
  refine or_iconst (v := nI 0) E rfl dX11_minutesToHorn_1 ?_
  refine ot_putI E fl_11_54 fw_11_18 dX11_minutesToHorn_2 h_m.1 rfl ?_
  obtain ⟨I1, hI1⟩ : ∃ y_ : ow_I, y_ = ow_u I m 18 (nI 0) := ⟨_, rfl⟩
  replace hk := lt_k (P := fun r : Int32 × ow_I => K (some (.int ((r).1))) (S, (r).2, V, z)) hI1 hk
  refine or_nmI hI1 ?_
  refine or_iconst (v := nI 1) E rfl dX11_minutesToHorn_5 ?_
  refine or_istore_n E dX11_minutesToHorn_6 (by decide) ?_
  refine or_lv _ ?_ (L7 61 _ _ (by subst hI1; rw [u_A]; exact hv) (by subst hI1; rw [u_A]; exact h0) (by subst hI1; rw [u_A]; exact h0b) (by decide) (by decide) hk)
  rfl
