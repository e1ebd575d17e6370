theorem lk_11_235 : ow_lv RX11 235 yX11_failsAtBarrel cX11_failsAtBarrel 1 (some .boolean) 0 := ⟨ow_T_in 1805 (by decide +kernel) (by decide +kernel), ow_T_in 1807 (by decide +kernel) (by decide +kernel), ow_T_sel 63 (by decide +kernel) (by decide +kernel), ow_T_in 19 (by decide +kernel) (by decide +kernel), ow_T_in 1808 (by decide +kernel) (by decide +kernel), ⟨by decide +kernel, by decide +kernel, by decide +kernel⟩⟩
def M_failsAtFirstBarrel_L40 (m : Nat) : Nat → ow_I → Nat → Nat → Bool × ow_I
  | 0, I, _, _ => (default, I)
  | n + 1, I, b, i => if tn (I m 13) ≤ i then lt (M_failsAtEnd m I) (fun (r3 : Bool × ow_I) => (r3.1, r3.2)) else lt (M_addEel m b (I (m + 4) i) I) (fun (I4 : ow_I) => M_failsAtFirstBarrel_L40 m n I4 b (i + 1))
def M_failsAtFirstBarrel (m : Nat) (I : ow_I) : Bool × ow_I :=
  if I (m + 1) 7 = nI 20 then lt (M_fails m (nI 3) I) (fun (r5 : Bool × ow_I) => (r5.1, r5.2)) else lt (M_failsAtBarrel m I) (fun (r1 : Bool × ow_I) => if r1.1 then (true, r1.2) else lt (M_newBarrel m (r1.2 (m + 4) 0) r1.2) (fun (r2 : Nat × ow_I) => M_failsAtFirstBarrel_L40 m 11 r2.2 r2.1 1))
set_option maxRecDepth 100000 in
set_option maxHeartbeats 400000 in
theorem cM_failsAtFirstBarrel {S : Nat → Option ow_Sh} {I : ow_I} {V : Nat → Nat → Value} {z : Nat} {m : Nat} (h_m : md_S S m) (hw : md_W m I) (hB : md_B (I (m + 1))) : ow_Cf yX11_failsAtFirstBarrel cX11_failsAtFirstBarrel 3 (some .boolean) 6 [.ref m] (S, I, V, z) (some (.int (bi ((M_failsAtFirstBarrel m I).1)))) (S, (M_failsAtFirstBarrel m I).2, V, z) := by
  refine ow_Cf.of rfl (Nat.le_of_ble_eq_true rfl) (fun X K E F hk => ?_)
  have E : ow_E X RX11 cX11_failsAtFirstBarrel 3 (ow_rm 6 0 0) := E
  refine or_lv [(0, .ref m)] rfl ?_
  have L40 : ∀ (n : Nat) (I : ow_I) (b : Nat) (i : Nat) (hw : md_W m I) (hE : md_E (I (m + 1)) b (i - 1)) (hb : b < 20) (hn : 0 ≤ I m 13) (hn2 : tn (I m 13) ≤ 10) (hi : 1 ≤ i) (hi2 : i ≤ 10) (hm : 10 - i < n) (hk : K (some (.int (bi ((M_failsAtFirstBarrel_L40 m n I b i).1)))) (S, (M_failsAtFirstBarrel_L40 m n I b i).2, V, z)), ow_W X 0 0 (S, I, V, z) 40 [(0, .ref m), (1, .int (nI b)), (2, .int (nI i))] [] := by
    intro n
    induction n with
    | zero => intro I b i hw hE hb hn hn2 hi hi2 hm; omega
    | succ n ih =>
      intro I b i hw hE hb hn hn2 hi hi2 hm hk
      dsimp only [M_failsAtFirstBarrel_L40] at hk
      refine or_iload_n E rfl dX11_failsAtFirstBarrel_40 ?_
      refine or_aload_n E rfl dX11_failsAtFirstBarrel_41 ?_
      refine ot_getI E fl_11_232 dX11_failsAtFirstBarrel_42 h_m.1 rfl ?_
      refine or_top (nI_tn hn).symm ?_
      refine or_icmp_geN 65 E dX11_failsAtFirstBarrel_45 rfl (by omega) (by omega) (fun q45 => ?_) (fun q45 => ?_)
      · replace hk := ite_p (P := fun r : Bool × ow_I => K (some (.int (bi ((r).1)))) (S, (r).2, V, z)) q45 hk
        refine or_aload_n E rfl dX11_failsAtFirstBarrel_65 ?_
        refine or_cV0r (cM_failsAtEnd  h_m hw.1) E lk_11_220 dX11_failsAtFirstBarrel_66 h_m.1 rfl rfl (by decide) (by decide) ⟨Nat.le_refl _, Nat.le_refl _⟩ (Nat.le_of_ble_eq_true rfl) ?_
        obtain ⟨r3, hr3⟩ : ∃ y_ : Bool × ow_I, y_ = M_failsAtEnd m I := ⟨_, rfl⟩
        replace hk := lt_k (P := fun r : Bool × ow_I => K (some (.int (bi ((r).1)))) (S, (r).2, V, z)) hr3 hk
        refine or_nmZ hr3 ?_
        try dsimp only at hk
        exact or_zret E F dX11_failsAtFirstBarrel_69 (Nat.le_refl _) (Nat.le_refl _) (bi_nar _) hk
      · replace hk := ite_n (P := fun r : Bool × ow_I => K (some (.int (bi ((r).1)))) (S, (r).2, V, z)) q45 hk
        refine or_aload_n E rfl dX11_failsAtFirstBarrel_48 ?_
        refine or_iload_n E rfl dX11_failsAtFirstBarrel_49 ?_
        refine or_aload_n E rfl dX11_failsAtFirstBarrel_50 ?_
        refine ot_getC E fl_11_25 dX11_failsAtFirstBarrel_51 h_m.1 rfl ?_
        refine or_iload_n E rfl dX11_failsAtFirstBarrel_54 ?_
        refine ot_iald (j := i) E dX11_failsAtFirstBarrel_55 h_m.2.2.2.2.1 rfl rfl (by omega) (Nat.le_of_ble_eq_true rfl) ?_
        refine or_cV2v (cM_addEel  h_m hb (by show 0 ≤ I (m + 1) (66 + 15 * b); rw [hE.2.2.2.2.2.2.2.2]; exact nI_ge0 (by omega)) (by show tn (I (m + 1) (66 + 15 * b)) < 9; rw [hE.2.2.2.2.2.2.2.2, tn_nI (by omega)]; omega)) E lk_11_50 dX11_failsAtFirstBarrel_56 h_m.1 rfl rfl (by decide) (by decide) ⟨Nat.le_refl _, Nat.le_refl _⟩ (Nat.le_of_ble_eq_true rfl) ?_
        obtain ⟨I4, hI4⟩ : ∃ y_ : ow_I, y_ = M_addEel m b (I (m + 4) i) I := ⟨_, rfl⟩
        replace hk := lt_k (P := fun r : Bool × ow_I => K (some (.int (bi ((r).1)))) (S, (r).2, V, z)) hI4 hk
        refine or_nmI hI4 ?_
        refine or_iincN (c := 1) E dX11_failsAtFirstBarrel_59 rfl rfl (by decide) ?_
        refine or_goto 40 E dX11_failsAtFirstBarrel_62 rfl ?_
        refine or_lv _ ?_ (ih _ _ _ (by subst hI4; exact (mdW_row hw (rr_addEel (by omega)))) (by subst hI4; have := E_add (x := I (m + 4) i) hE (by omega); rw [show i - 1 + 1 = i + 1 - 1 by omega] at this; exact this) (by subst hI4; exact hb) (by subst hI4; rw [rr_addEel (by omega)]; exact hn) (by subst hI4; rw [rr_addEel (by omega)]; exact hn2) (by subst hI4; omega) (by subst hI4; omega) (by omega) hk)
        rfl
  dsimp only [M_failsAtFirstBarrel] at hk
  refine or_aload_n E rfl dX11_failsAtFirstBarrel_0 ?_
  refine ot_getC E fl_11_7 dX11_failsAtFirstBarrel_1 h_m.1 rfl ?_
  refine or_bipush (v := nI 7) E rfl dX11_failsAtFirstBarrel_4 ?_
  refine ot_iald (j := 7) E dX11_failsAtFirstBarrel_6 h_m.2.1 rfl rfl (by omega) (Nat.le_of_ble_eq_true rfl) ?_
  refine or_bipush (v := nI 20) E rfl dX11_failsAtFirstBarrel_7 ?_
  refine or_icmp_ne 18 E dX11_failsAtFirstBarrel_9 rfl (fun q9 => ?_) (fun q9 => ?_)
  · replace hk := ite_n (P := fun r : Bool × ow_I => K (some (.int (bi ((r).1)))) (S, (r).2, V, z)) q9 hk
    refine or_aload_n E rfl dX11_failsAtFirstBarrel_18 ?_
    refine or_cV0r (cM_failsAtBarrel  h_m hw.1) E lk_11_235 dX11_failsAtFirstBarrel_19 h_m.1 rfl rfl (by decide) (by decide) ⟨Nat.le_refl _, Nat.le_refl _⟩ (Nat.le_of_ble_eq_true rfl) ?_
    obtain ⟨r1, hr1⟩ : ∃ y_ : Bool × ow_I, y_ = M_failsAtBarrel m I := ⟨_, rfl⟩
    replace hk := lt_k (P := fun r : Bool × ow_I => K (some (.int (bi ((r).1)))) (S, (r).2, V, z)) hr1 hk
    refine or_nmZ hr1 ?_
    refine or_if_eqZ 27 E dX11_failsAtFirstBarrel_22 rfl (fun q22 => ?_) (fun q22 => ?_)
    · replace hk := ite_n (P := fun r : Bool × ow_I => K (some (.int (bi ((r).1)))) (S, (r).2, V, z)) (bz_neg q22) hk
      refine or_aload_n E rfl dX11_failsAtFirstBarrel_27 ?_
      refine or_aload_n E rfl dX11_failsAtFirstBarrel_28 ?_
      refine ot_getC E fl_11_25 dX11_failsAtFirstBarrel_29 h_m.1 rfl ?_
      refine or_iconst (v := nI 0) E rfl dX11_failsAtFirstBarrel_32 ?_
      refine ot_iald (j := 0) E dX11_failsAtFirstBarrel_33 h_m.2.2.2.2.1 rfl rfl (by omega) (Nat.le_of_ble_eq_true rfl) ?_
      refine or_cV1r (cM_newBarrel  h_m (by subst hr1; rw [rr_brl (by omega) (by omega)]; exact hB.2.2.1.1) (by subst hr1; rw [rr_brl (by omega) (by omega)]; exact B_lt hB q9) (by subst hr1; rw [rr_brl (by omega) (by omega), hB.2.2.2.2.2.1]; exact hB.2.2.1.1) (by subst hr1; rw [rr_brl (by omega) (by omega), hB.2.2.2.2.2.1]; exact B_lt hB q9)) E lk_11_46 dX11_failsAtFirstBarrel_34 h_m.1 rfl rfl (by decide) (by decide) ⟨Nat.le_refl _, Nat.le_refl _⟩ (Nat.le_of_ble_eq_true rfl) ?_
      obtain ⟨r2, hr2⟩ : ∃ y_ : Nat × ow_I, y_ = M_newBarrel m (r1.2 (m + 4) 0) r1.2 := ⟨_, rfl⟩
      replace hk := lt_k (P := fun r : Bool × ow_I => K (some (.int (bi ((r).1)))) (S, (r).2, V, z)) hr2 hk
      refine or_nmN hr2 ?_
      refine or_istore_n E dX11_failsAtFirstBarrel_37 (by decide) ?_
      refine or_iconst (v := nI 1) E rfl dX11_failsAtFirstBarrel_38 ?_
      refine or_istore_n E dX11_failsAtFirstBarrel_39 (by decide) ?_
      refine or_lv _ ?_ (L40 11 _ _ _ (by subst hr2 hr1; exact (mdW_row (W_brl hw.1) (rr_newBarrel (by omega)))) (by subst hr2 hr1; rw [rdNB1]; exact E_new (by rw [rr_brl (by omega) (by omega)]; exact hB) (by rw [rr_brl (by omega) (by omega)]; exact B_lt hB q9)) (by subst hr2 hr1; rw [rdNB1, rr_brl (by omega) (by omega)]; exact B_lt hB q9) (by subst hr2 hr1; rw [rr_newBarrel (by omega)]; exact (N13_brl q22).1) (by subst hr2 hr1; rw [rr_newBarrel (by omega)]; exact (N13_brl q22).2.2) (by subst hr2 hr1; omega) (by subst hr2 hr1; omega) (by omega) hk)
      rfl
    · replace hk := ite_p (P := fun r : Bool × ow_I => K (some (.int (bi ((r).1)))) (S, (r).2, V, z)) q22 hk
      refine or_iconst (v := nI 1) E rfl dX11_failsAtFirstBarrel_25 ?_
      try dsimp only at hk
      exact or_zret E F dX11_failsAtFirstBarrel_26 (Nat.le_refl _) (Nat.le_refl _) (bi_nar true) hk
  · replace hk := ite_p (P := fun r : Bool × ow_I => K (some (.int (bi ((r).1)))) (S, (r).2, V, z)) q9 hk
    refine or_aload_n E rfl dX11_failsAtFirstBarrel_12 ?_
    refine or_iconst (v := nI 3) E rfl dX11_failsAtFirstBarrel_13 ?_
    refine or_cV1r (cM_fails  h_m ) E lk_11_214 dX11_failsAtFirstBarrel_14 h_m.1 rfl rfl (by decide) (by decide) ⟨Nat.le_refl _, Nat.le_refl _⟩ (Nat.le_of_ble_eq_true rfl) ?_
    obtain ⟨r5, hr5⟩ : ∃ y_ : Bool × ow_I, y_ = M_fails m (nI 3) I := ⟨_, rfl⟩
    replace hk := lt_k (P := fun r : Bool × ow_I => K (some (.int (bi ((r).1)))) (S, (r).2, V, z)) hr5 hk
    refine or_nmZ hr5 ?_
    try dsimp only at hk
    exact or_zret E F dX11_failsAtFirstBarrel_17 (Nat.le_refl _) (Nat.le_refl _) (bi_nar _) hk
