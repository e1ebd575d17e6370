theorem sc_C {m : Nat} {I : ow_I} (hv : md_V (I (m + 1))) (ho : 0 ≤ I m 1) (hk2 : 0 ≤ I m 2) (h : (M_failsAtScript m (ow_u I m 18 (nI 0))).1 = false) : md_C m (M_keep m 0 (M_throwsIf m (M_failsAtScript m (ow_u I m 18 (nI 0))).1 (nI 1) (ow_u (M_failsAtScript m (ow_u I m 18 (nI 0))).2 m 5 (nI 0))).2) := by
  have e1 : ∀ k, k = 1 ∨ k = 2 → (M_throwsIf m (M_failsAtScript m (ow_u I m 18 (nI 0))).1 (nI 1) (ow_u (M_failsAtScript m (ow_u I m 18 (nI 0))).2 m 5 (nI 0))).2 m k = I m k := fun k hk => by
    rw [fr_thr (by omega), ow_u_k _ _ _ _ (by omega), fr_scr (by omega), ow_u_k _ _ _ _ (by omega)]
  have c := C_scr (I := ow_u I m 18 (nI 0)) (by rw [rr_u (by omega)]; exact hv) h
  refine C_of c ?_ ?_ ?_
  · rw [fr_keep (by rw [e1 1 (by omega)]; exact ho) (by rw [e1 2 (by omega)]; exact hk2) (by omega) (by omega), fr_thr (by omega), ow_u_k _ _ _ _ (by omega)]
  · rw [keep_0 (by rw [e1 1 (by omega)]; exact ho) (by rw [e1 2 (by omega)]; exact hk2) (Or.inl rfl) (by omega), rr_thr (by omega), rr_u (by omega)]
  · rw [rr_keep (by rw [e1 1 (by omega)]; exact ho) (by rw [e1 2 (by omega)]; exact hk2) (by omega) (by omega), rr_thr (by omega), rr_u (by omega)]
theorem lk_11_299 : ow_lv RX11 299 yX11_failsAtScript cX11_failsAtScript 2 (some .boolean) 0 := ⟨ow_T_in 1817 (by decide +kernel) (by decide +kernel), ow_T_in 1819 (by decide +kernel) (by decide +kernel), ow_T_sel 65 (by decide +kernel) (by decide +kernel), ow_T_in 19 (by decide +kernel) (by decide +kernel), ow_T_in 1820 (by decide +kernel) (by decide +kernel), ⟨by decide +kernel, by decide +kernel, by decide +kernel⟩⟩
theorem lk_11_302 : ow_lv RX11 302 yX11_execute cX11_execute 4 (some .boolean) 1 := ⟨ow_T_in 1837 (by decide +kernel) (by decide +kernel), ow_T_in 1839 (by decide +kernel) (by decide +kernel), ow_T_sel 70 (by decide +kernel) (by decide +kernel), ow_T_in 19 (by decide +kernel) (by decide +kernel), ow_T_in 1840 (by decide +kernel) (by decide +kernel), ⟨by decide +kernel, by decide +kernel, by decide +kernel⟩⟩
def M_runScript_L33 (m : Nat) : Nat → ow_I → Nat → Int32 × ow_I
  | 0, I, _ => (default, I)
  | n + 1, I, i => if tn (I m 15) ≤ i then (I m 15, I) else lt (M_execute m (13 * i) I) (fun (r6 : Bool × ow_I) => if r6.1 then M_runScript_L33 m n r6.2 (i + 1) else (nI i, r6.2))
def M_runScript (m : Nat) (I : ow_I) : Int32 × ow_I :=
  lt (ow_u I m 18 (nI 0)) (fun (I1 : ow_I) => lt (M_failsAtScript m I1) (fun (r2 : Bool × ow_I) => lt (ow_u r2.2 m 5 (nI 0)) (fun (I3 : ow_I) => lt (M_throwsIf m r2.1 (nI 1) I3) (fun (r4 : Bool × ow_I) => if r4.1 then (nI 0, r4.2) else lt (M_keep m 0 r4.2) (fun (I5 : ow_I) => M_runScript_L33 m 21 I5 0)))))
set_option maxRecDepth 100000 in
set_option maxHeartbeats 400000 in
theorem cM_runScript {S : Nat → Option ow_Sh} {I : ow_I} {V : Nat → Nat → Value} {z : Nat} {m : Nat} (h_m : md_S S m) (hl : 0 ≤ I m 5) (hlb : tn (I m 5) ≤ 500) (ho : 0 ≤ I m 1) (hob : tn (I m 1) < 8) (hk2 : 0 ≤ I m 2) (hkb : tn (I m 2) ≤ 8) (hv : md_V (I (m + 1))) : ow_Cf yX11_runScript cX11_runScript 3 (some .int) 9 [.ref m] (S, I, V, z) (some (.int ((M_runScript m I).1))) (S, (M_runScript m I).2, V, z) := by
  refine ow_Cf.of rfl (Nat.le_of_ble_eq_true rfl) (fun X K E F hk => ?_)
  have E : ow_E X RX11 cX11_runScript 3 (ow_rm 9 0 0) := E
  refine or_lv [(0, .ref m)] rfl ?_
  have L33 : ∀ (n : Nat) (I : ow_I) (i : Nat) (hv : md_V (I (m + 1))) (hC : md_C m I) (hi : i ≤ 20) (hm : 20 - i < n) (hk : K (some (.int ((M_runScript_L33 m n I i).1))) (S, (M_runScript_L33 m n I i).2, V, z)), ow_W X 0 0 (S, I, V, z) 33 [(0, .ref m), (2, .int (nI i))] [] := by
    intro n
    induction n with
    | zero => intro I i hv hC hi hm; omega
    | succ n ih =>
      intro I i hv hC hi hm hk
      dsimp only [M_runScript_L33] at hk
      have h15 := hC.2.1
      refine or_iload_n E rfl dX11_runScript_33 ?_
      refine or_aload_n E rfl dX11_runScript_34 ?_
      refine ot_getI E fl_11_208 dX11_runScript_35 h_m.1 rfl ?_
      refine or_top (nI_tn hC.1).symm ?_
      refine or_icmp_geN 60 E dX11_runScript_38 rfl (by omega) (by omega) (fun q38 => ?_) (fun q38 => ?_)
      · replace hk := ite_p (P := fun r : Int32 × ow_I => K (some (.int ((r).1))) (S, (r).2, V, z)) q38 hk
        refine or_aload_n E rfl dX11_runScript_60 ?_
        refine ot_getI E fl_11_208 dX11_runScript_61 h_m.1 rfl ?_
        try dsimp only at hk
        exact or_iret E F dX11_runScript_64 (Nat.le_refl _) (Nat.le_refl _) hk
      · replace hk := ite_n (P := fun r : Int32 × ow_I => K (some (.int ((r).1))) (S, (r).2, V, z)) q38 hk
        refine or_aload_n E rfl dX11_runScript_41 ?_
        refine or_bipush (v := nI 13) E rfl dX11_runScript_42 ?_
        refine or_iload_n E rfl dX11_runScript_44 ?_
        refine or_imulN E dX11_runScript_45 ?_
        refine or_cV1r (cM_execute  h_m hv (by omega) (hC.2.2 i (by omega))) E lk_11_302 dX11_runScript_46 h_m.1 rfl rfl (by decide) (by decide) ⟨Nat.le_refl _, Nat.le_refl _⟩ (Nat.le_of_ble_eq_true rfl) ?_
        obtain ⟨r6, hr6⟩ : ∃ y_ : Bool × ow_I, y_ = M_execute m (13 * i) I := ⟨_, rfl⟩
        replace hk := lt_k (P := fun r : Int32 × ow_I => K (some (.int ((r).1))) (S, (r).2, V, z)) hr6 hk
        refine or_nmZ hr6 ?_
        refine or_if_neZ 54 E dX11_runScript_49 rfl (fun q49 => ?_) (fun q49 => ?_)
        · replace hk := ite_p (P := fun r : Int32 × ow_I => K (some (.int ((r).1))) (S, (r).2, V, z)) q49 hk
          refine or_iincN (c := 1) E dX11_runScript_54 rfl rfl (by decide) ?_
          refine or_goto 33 E dX11_runScript_57 rfl ?_
          refine or_lv _ ?_ (ih _ _ (by subst hr6; exact (V_execute hv (hC.2.2 i (by omega)))) (by subst hr6; exact (C_exec hC hv (hC.2.2 i (by omega)))) (by subst hr6; have := hC.2.1; omega) (by subst hr6; have := hC.2.1; omega) hk)
          rfl
        · replace hk := ite_n (P := fun r : Int32 × ow_I => K (some (.int ((r).1))) (S, (r).2, V, z)) (bz_neg q49) hk
          refine or_iload_n E rfl dX11_runScript_52 ?_
          try dsimp only at hk
          exact or_iret E F dX11_runScript_53 (Nat.le_refl _) (Nat.le_refl _) hk
  dsimp only [M_runScript] at hk
  refine or_aload_n E rfl dX11_runScript_0 ?_
  refine or_iconst (v := nI 0) E rfl dX11_runScript_1 ?_
  refine ot_putI E fl_11_54 fw_11_18 dX11_runScript_2 h_m.1 rfl ?_
  obtain ⟨I1, hI1⟩ : ∃ y_ : ow_I, y_ = ow_u I m 18 (nI 0) := ⟨_, rfl⟩
  replace hk := lt_k (P := fun r : Int32 × ow_I => K (some (.int ((r).1))) (S, (r).2, V, z)) hI1 hk
  refine or_nmI hI1 ?_
  refine or_aload_n E rfl dX11_runScript_5 ?_
  refine or_cV0r (cM_failsAtScript  h_m (by subst hI1; rw [ow_u_k _ _ _ _ (by decide)]; exact hl) (by subst hI1; rw [ow_u_k _ _ _ _ (by decide)]; exact hlb)) E lk_11_299 dX11_runScript_6 h_m.1 rfl rfl (by decide) (by decide) ⟨Nat.le_refl _, Nat.le_refl _⟩ (Nat.le_of_ble_eq_true rfl) ?_
  obtain ⟨r2, hr2⟩ : ∃ y_ : Bool × ow_I, y_ = M_failsAtScript m I1 := ⟨_, rfl⟩
  replace hk := lt_k (P := fun r : Int32 × ow_I => K (some (.int ((r).1))) (S, (r).2, V, z)) hr2 hk
  refine or_nmZ hr2 ?_
  refine or_istore_n E dX11_runScript_9 (by decide) ?_
  refine or_aload_n E rfl dX11_runScript_10 ?_
  refine or_iconst (v := nI 0) E rfl dX11_runScript_11 ?_
  refine ot_putI E fl_11_163 fw_11_5 dX11_runScript_12 h_m.1 rfl ?_
  obtain ⟨I3, hI3⟩ : ∃ y_ : ow_I, y_ = ow_u r2.2 m 5 (nI 0) := ⟨_, rfl⟩
  replace hk := lt_k (P := fun r : Int32 × ow_I => K (some (.int ((r).1))) (S, (r).2, V, z)) hI3 hk
  refine or_nmI hI3 ?_
  refine or_aload_n E rfl dX11_runScript_15 ?_
  refine or_iload_n E rfl dX11_runScript_16 ?_
  refine or_iconst (v := nI 1) E rfl dX11_runScript_17 ?_
  refine or_cV2r (cM_throwsIf  h_m ) E lk_11_166 dX11_runScript_18 h_m.1 rfl rfl (by decide) (by decide) ⟨Nat.le_refl _, Nat.le_refl _⟩ (Nat.le_of_ble_eq_true rfl) ?_
  obtain ⟨r4, hr4⟩ : ∃ y_ : Bool × ow_I, y_ = M_throwsIf m r2.1 (nI 1) I3 := ⟨_, rfl⟩
  replace hk := lt_k (P := fun r : Int32 × ow_I => K (some (.int ((r).1))) (S, (r).2, V, z)) hr4 hk
  refine or_nmZ hr4 ?_
  refine or_if_eqZ 26 E dX11_runScript_21 rfl (fun q21 => ?_) (fun q21 => ?_)
  · replace hk := ite_n (P := fun r : Int32 × ow_I => K (some (.int ((r).1))) (S, (r).2, V, z)) (bz_neg q21) hk
    refine or_aload_n E rfl dX11_runScript_26 ?_
    refine or_iconst (v := nI 0) E rfl dX11_runScript_27 ?_
    refine or_cV1v (cM_keep  h_m (by decide) (by subst hr4 hI3 hr2 hI1; rw [fr_thr (by decide), ow_u_k _ _ _ _ (by decide), fr_scr (by decide), ow_u_k _ _ _ _ (by decide)]; exact ho) (by subst hr4 hI3 hr2 hI1; rw [fr_thr (by decide), ow_u_k _ _ _ _ (by decide), fr_scr (by decide), ow_u_k _ _ _ _ (by decide)]; exact hob) (by subst hr4 hI3 hr2 hI1; rw [fr_thr (by decide), ow_u_k _ _ _ _ (by decide), fr_scr (by decide), ow_u_k _ _ _ _ (by decide)]; exact hk2) (by subst hr4 hI3 hr2 hI1; rw [fr_thr (by decide), ow_u_k _ _ _ _ (by decide), fr_scr (by decide), ow_u_k _ _ _ _ (by decide)]; exact hkb)) E lk_11_253 dX11_runScript_28 h_m.1 rfl rfl (by decide) (by decide) ⟨Nat.le_refl _, Nat.le_refl _⟩ (Nat.le_of_ble_eq_true rfl) ?_
    obtain ⟨I5, hI5⟩ : ∃ y_ : ow_I, y_ = M_keep m 0 r4.2 := ⟨_, rfl⟩
    replace hk := lt_k (P := fun r : Int32 × ow_I => K (some (.int ((r).1))) (S, (r).2, V, z)) hI5 hk
    refine or_nmI hI5 ?_
    refine or_iconst (v := nI 0) E rfl dX11_runScript_31 ?_
    refine or_istore_n E dX11_runScript_32 (by decide) ?_
    refine or_lv _ ?_ (L33 21 _ _ (by subst hI5 hr4 hI3 hr2 hI1; exact (V_keep (by rw [rr_thr (by omega), rr_u (by omega), rr_scr (by omega) (by omega) (by omega), rr_u (by omega)]; exact hv) (by rw [fr_thr (by decide), ow_u_k _ _ _ _ (by decide), fr_scr (by decide), ow_u_k _ _ _ _ (by decide)]; exact ho) (by rw [fr_thr (by decide), ow_u_k _ _ _ _ (by decide), fr_scr (by decide), ow_u_k _ _ _ _ (by decide)]; exact hk2) (Or.inl rfl))) (by subst hI5 hr4 hI3 hr2 hI1; exact (sc_C hv ho hk2 (by rw [thr_b] at q21; exact q21))) (by decide) (by decide) hk)
    rfl
  · replace hk := ite_p (P := fun r : Int32 × ow_I => K (some (.int ((r).1))) (S, (r).2, V, z)) q21 hk
    refine or_iconst (v := nI 0) E rfl dX11_runScript_24 ?_
    try dsimp only at hk
    exact or_iret E F dX11_runScript_25 (Nat.le_refl _) (Nat.le_refl _) hk
