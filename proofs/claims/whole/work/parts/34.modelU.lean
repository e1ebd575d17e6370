theorem fl_11_28 : ow_fl RX11 28 11 14 := ⟨_, rfl, by decide, ow_T_in 1649 (by decide +kernel) (by decide +kernel), ow_ok11⟩
theorem lk_11_262 : ow_lv RX11 262 yX11_failsAtRest cX11_failsAtRest 2 (some .boolean) 1 := ⟨ow_T_in 1825 (by decide +kernel) (by decide +kernel), ow_T_in 1827 (by decide +kernel) (by decide +kernel), ow_T_sel 67 (by decide +kernel) (by decide +kernel), ow_T_in 19 (by decide +kernel) (by decide +kernel), ow_T_in 1828 (by decide +kernel) (by decide +kernel), ⟨by decide +kernel, by decide +kernel, by decide +kernel⟩⟩
def M_failsAtCommand_L104 (m : Nat) : Nat → ow_I → Nat → Nat → Bool × ow_I
  | 0, I, _, _ => (default, I)
  | n + 1, I, a, i => if tn (I m 13) ≤ i then lt (ow_u I m 15 (I m 15 + (nI 1))) (fun (I5 : ow_I) => lt (M_failsAtEnd m I5) (fun (r6 : Bool × ow_I) => (r6.1, r6.2))) else lt (ow_u I (m + 5) (a + 2 + i) (I (m + 4) i)) (fun (I7 : ow_I) => M_failsAtCommand_L104 m n I7 a (i + 1))
def M_failsAtCommand (m : Nat) (I : ow_I) : Bool × ow_I :=
  if M_in (M_wordOf m I) (nI 2) (nI 7) I then if I m 15 = nI 20 then lt (M_fails m (nI 3) I) (fun (r17 : Bool × ow_I) => (r17.1, r17.2)) else lt (ow_u I m 13 (nI 2)) (fun (I1 : ow_I) => if M_wordOf m I = nI 2 then lt (M_failsAtBarrel m I1) (fun (r11 : Bool × ow_I) => if r11.1 then (true, r11.2) else if M_wordOf m I = nI 2 then lt (ow_u r11.2 (m + 5) (13 * (tn (I m 15))) (M_wordOf m I)) (fun (I12 : ow_I) => lt (ow_u I12 (m + 5) (13 * (tn (I m 15)) + 1) (I12 m 13)) (fun (I13 : ow_I) => M_failsAtCommand_L104 m 11 I13 (13 * (tn (I m 15))) 0)) else lt (M_readToken m r11.2) (fun (I14 : ow_I) => lt (ow_u I14 (m + 5) (13 * (tn (I m 15))) (M_wordOf m I)) (fun (I15 : ow_I) => lt (ow_u I15 (m + 5) (13 * (tn (I m 15)) + 1) (I15 m 13)) (fun (I16 : ow_I) => M_failsAtCommand_L104 m 11 I16 (13 * (tn (I m 15))) 0)))) else lt (M_failsAtRest m (M_wordOf m I) I1) (fun (r2 : Bool × ow_I) => if r2.1 then (true, r2.2) else if M_wordOf m I = nI 2 then lt (ow_u r2.2 (m + 5) (13 * (tn (I m 15))) (M_wordOf m I)) (fun (I3 : ow_I) => lt (ow_u I3 (m + 5) (13 * (tn (I m 15)) + 1) (I3 m 13)) (fun (I4 : ow_I) => M_failsAtCommand_L104 m 11 I4 (13 * (tn (I m 15))) 0)) else lt (M_readToken m r2.2) (fun (I8 : ow_I) => lt (ow_u I8 (m + 5) (13 * (tn (I m 15))) (M_wordOf m I)) (fun (I9 : ow_I) => lt (ow_u I9 (m + 5) (13 * (tn (I m 15)) + 1) (I9 m 13)) (fun (I10 : ow_I) => M_failsAtCommand_L104 m 11 I10 (13 * (tn (I m 15))) 0))))) else lt (M_fails m (nI 1) I) (fun (r18 : Bool × ow_I) => (r18.1, r18.2))
set_option maxRecDepth 100000 in
set_option maxHeartbeats 400000 in
theorem cM_failsAtCommand {S : Nat → Option ow_Sh} {I : ow_I} {V : Nat → Nat → Value} {z : Nat} {m : Nat} (h_m : md_S S m) (hw : md_W m I) (hc : 0 ≤ I m 15) (hcb : tn (I m 15) ≤ 20) : ow_Cf yX11_failsAtCommand cX11_failsAtCommand 4 (some .boolean) 7 [.ref m] (S, I, V, z) (some (.int (bi ((M_failsAtCommand m I).1)))) (S, (M_failsAtCommand m I).2, V, z) := by
  refine ow_Cf.of rfl (Nat.le_of_ble_eq_true rfl) (fun X K E F hk => ?_)
  have E : ow_E X RX11 cX11_failsAtCommand 4 (ow_rm 7 0 0) := E
  refine or_lv [(0, .ref m)] rfl ?_
  have L104 : ∀ (n : Nat) (I : ow_I) (a : Nat) (i : Nat) (hw : md_W m I) (hn : 0 ≤ I m 13) (hn2 : tn (I m 13) ≤ 10) (ha : a ≤ 247) (hi : i ≤ 10) (hm : 10 - i < n) (hk : K (some (.int (bi ((M_failsAtCommand_L104 m n I a i).1)))) (S, (M_failsAtCommand_L104 m n I a i).2, V, z)), ow_W X 0 0 (S, I, V, z) 104 [(0, .ref m), (2, .int (nI a)), (3, .int (nI i))] [] := by
    intro n
    induction n with
    | zero => intro I a i hw hn hn2 ha hi hm; omega
    | succ n ih =>
      intro I a i hw hn hn2 ha hi hm hk
      dsimp only [M_failsAtCommand_L104] at hk
      refine or_iload_n E rfl dX11_failsAtCommand_104 ?_
      refine or_aload_n E rfl dX11_failsAtCommand_105 ?_
      refine ot_getI E fl_11_232 dX11_failsAtCommand_106 h_m.1 rfl ?_
      refine or_top (nI_tn hn).symm ?_
      refine or_icmp_geN 134 E dX11_failsAtCommand_109 rfl (by omega) (by omega) (fun q109 => ?_) (fun q109 => ?_)
      · replace hk := ite_p (P := fun r : Bool × ow_I => K (some (.int (bi ((r).1)))) (S, (r).2, V, z)) q109 hk
        refine or_aload_n E rfl dX11_failsAtCommand_134 ?_
        refine or_dup E rfl dX11_failsAtCommand_135 ?_
        refine ot_getI E fl_11_208 dX11_failsAtCommand_136 h_m.1 rfl ?_
        refine or_iconst (v := nI 1) E rfl dX11_failsAtCommand_139 ?_
        refine or_iadd E dX11_failsAtCommand_140 ?_
        refine ot_putI E fl_11_208 fw_11_15 dX11_failsAtCommand_141 h_m.1 rfl ?_
        obtain ⟨I5, hI5⟩ : ∃ y_ : ow_I, y_ = ow_u I m 15 (I m 15 + (nI 1)) := ⟨_, rfl⟩
        replace hk := lt_k (P := fun r : Bool × ow_I => K (some (.int (bi ((r).1)))) (S, (r).2, V, z)) hI5 hk
        refine or_nmI hI5 ?_
        refine or_aload_n E rfl dX11_failsAtCommand_144 ?_
        refine or_cV0r (cM_failsAtEnd  h_m (by subst hI5; exact (md_WT (mdW_o hw _ (by decide) (by decide) (by decide))))) E lk_11_220 dX11_failsAtCommand_145 h_m.1 rfl rfl (by decide) (by decide) ⟨Nat.le_refl _, Nat.le_refl _⟩ (Nat.le_of_ble_eq_true rfl) ?_
        obtain ⟨r6, hr6⟩ : ∃ y_ : Bool × ow_I, y_ = M_failsAtEnd m I5 := ⟨_, rfl⟩
        replace hk := lt_k (P := fun r : Bool × ow_I => K (some (.int (bi ((r).1)))) (S, (r).2, V, z)) hr6 hk
        refine or_nmZ hr6 ?_
        try dsimp only at hk
        exact or_zret E F dX11_failsAtCommand_148 (Nat.le_refl _) (Nat.le_refl _) (bi_nar _) hk
      · replace hk := ite_n (P := fun r : Bool × ow_I => K (some (.int (bi ((r).1)))) (S, (r).2, V, z)) q109 hk
        refine or_aload_n E rfl dX11_failsAtCommand_112 ?_
        refine ot_getC E fl_11_28 dX11_failsAtCommand_113 h_m.1 rfl ?_
        refine or_iload_n E rfl dX11_failsAtCommand_116 ?_
        refine or_iconst (v := nI 2) E rfl dX11_failsAtCommand_117 ?_
        refine or_iaddN E dX11_failsAtCommand_118 ?_
        refine or_iload_n E rfl dX11_failsAtCommand_119 ?_
        refine or_iaddN E dX11_failsAtCommand_120 ?_
        refine or_aload_n E rfl dX11_failsAtCommand_121 ?_
        refine ot_getC E fl_11_25 dX11_failsAtCommand_122 h_m.1 rfl ?_
        refine or_iload_n E rfl dX11_failsAtCommand_125 ?_
        refine ot_iald (j := i) E dX11_failsAtCommand_126 h_m.2.2.2.2.1 rfl rfl (by omega) (Nat.le_of_ble_eq_true rfl) ?_
        refine ot_iast (j := a + 2 + i) E dX11_failsAtCommand_127 h_m.2.2.2.2.2.1 rfl rfl (by omega) (Nat.le_of_ble_eq_true rfl) ?_
        obtain ⟨I7, hI7⟩ : ∃ y_ : ow_I, y_ = ow_u I (m + 5) (a + 2 + i) (I (m + 4) i) := ⟨_, rfl⟩
        replace hk := lt_k (P := fun r : Bool × ow_I => K (some (.int (bi ((r).1)))) (S, (r).2, V, z)) hI7 hk
        refine or_nmI hI7 ?_
        refine or_iincN (c := 1) E dX11_failsAtCommand_128 rfl rfl (by decide) ?_
        refine or_goto 104 E dX11_failsAtCommand_131 rfl ?_
        refine or_lv _ ?_ (ih _ _ _ (by subst hI7; exact (mdW_row hw (rr_u (by omega)))) (by subst hI7; rw [rr_u (by omega)]; exact hn) (by subst hI7; rw [rr_u (by omega)]; exact hn2) (by subst hI7; exact ha) (by subst hI7; omega) (by omega) hk)
        rfl
  dsimp only [M_failsAtCommand] at hk
  refine or_aload_n E rfl dX11_failsAtCommand_0 ?_
  refine or_cV0r (cM_wordOf  h_m hw) E lk_11_223 dX11_failsAtCommand_1 h_m.1 rfl rfl (by decide) (by decide) ⟨Nat.le_refl _, Nat.le_refl _⟩ (Nat.le_of_ble_eq_true rfl) ?_
  refine or_istore_n E dX11_failsAtCommand_4 (by decide) ?_
  refine or_iload_n E rfl dX11_failsAtCommand_5 ?_
  refine or_iconst (v := nI 2) E rfl dX11_failsAtCommand_6 ?_
  refine or_bipush (v := nI 7) E rfl dX11_failsAtCommand_7 ?_
  refine or_cS3r (cM_in   ) E lk_11_173 dX11_failsAtCommand_9 (by decide) (by decide) ⟨Nat.le_refl _, Nat.le_refl _⟩ (Nat.le_of_ble_eq_true rfl) ?_
  refine or_if_neZ 21 E dX11_failsAtCommand_12 rfl (fun q12 => ?_) (fun q12 => ?_)
  · replace hk := ite_p (P := fun r : Bool × ow_I => K (some (.int (bi ((r).1)))) (S, (r).2, V, z)) q12 hk
    refine or_aload_n E rfl dX11_failsAtCommand_21 ?_
    refine ot_getI E fl_11_208 dX11_failsAtCommand_22 h_m.1 rfl ?_
    refine or_bipush (v := nI 20) E rfl dX11_failsAtCommand_25 ?_
    refine or_icmp_ne 36 E dX11_failsAtCommand_27 rfl (fun q27 => ?_) (fun q27 => ?_)
    · replace hk := ite_n (P := fun r : Bool × ow_I => K (some (.int (bi ((r).1)))) (S, (r).2, V, z)) q27 hk
      refine or_aload_n E rfl dX11_failsAtCommand_36 ?_
      refine or_iconst (v := nI 2) E rfl dX11_failsAtCommand_37 ?_
      refine ot_putI E fl_11_232 fw_11_13 dX11_failsAtCommand_38 h_m.1 rfl ?_
      obtain ⟨I1, hI1⟩ : ∃ y_ : ow_I, y_ = ow_u I m 13 (nI 2) := ⟨_, rfl⟩
      replace hk := lt_k (P := fun r : Bool × ow_I => K (some (.int (bi ((r).1)))) (S, (r).2, V, z)) hI1 hk
      refine or_nmI hI1 ?_
      refine or_iload_n E rfl dX11_failsAtCommand_41 ?_
      refine or_iconst (v := nI 2) E rfl dX11_failsAtCommand_42 ?_
      refine or_icmp_ne 56 E dX11_failsAtCommand_43 rfl (fun q43 => ?_) (fun q43 => ?_)
      · replace hk := ite_n (P := fun r : Bool × ow_I => K (some (.int (bi ((r).1)))) (S, (r).2, V, z)) q43 hk
        refine or_aload_n E rfl dX11_failsAtCommand_56 ?_
        refine or_iload_n E rfl dX11_failsAtCommand_57 ?_
        refine or_cV1r (cM_failsAtRest  h_m (by subst hI1; exact (md_WT (mdW_o hw _ (by decide) (by decide) (by decide))))) E lk_11_262 dX11_failsAtCommand_58 h_m.1 rfl rfl (by decide) (by decide) ⟨Nat.le_refl _, Nat.le_refl _⟩ (Nat.le_of_ble_eq_true rfl) ?_
        obtain ⟨r2, hr2⟩ : ∃ y_ : Bool × ow_I, y_ = M_failsAtRest m (M_wordOf m I) I1 := ⟨_, rfl⟩
        replace hk := lt_k (P := fun r : Bool × ow_I => K (some (.int (bi ((r).1)))) (S, (r).2, V, z)) hr2 hk
        refine or_nmZ hr2 ?_
        refine or_if_eqZ 66 E dX11_failsAtCommand_61 rfl (fun q61 => ?_) (fun q61 => ?_)
        · replace hk := ite_n (P := fun r : Bool × ow_I => K (some (.int (bi ((r).1)))) (S, (r).2, V, z)) (bz_neg q61) hk
          refine or_iload_n E rfl dX11_failsAtCommand_66 ?_
          refine or_iconst (v := nI 2) E rfl dX11_failsAtCommand_67 ?_
          refine or_icmp_eq 75 E dX11_failsAtCommand_68 rfl (fun q68 => ?_) (fun q68 => ?_)
          · replace hk := ite_p (P := fun r : Bool × ow_I => K (some (.int (bi ((r).1)))) (S, (r).2, V, z)) q68 hk
            refine or_bipush (v := nI 13) E rfl dX11_failsAtCommand_75 ?_
            refine or_aload_n E rfl dX11_failsAtCommand_77 ?_
            refine ot_getI E fl_11_208 dX11_failsAtCommand_78 h_m.1 rfl ?_
            refine or_top (y := nI (tn (I m 15))) (by subst hr2 hI1; rw [fr_rest (by decide), ow_u_k _ _ _ _ (by decide), nI_tn hc]) ?_
            refine or_imulN E dX11_failsAtCommand_81 ?_
            refine or_istore_n E dX11_failsAtCommand_82 (by decide) ?_
            refine or_aload_n E rfl dX11_failsAtCommand_83 ?_
            refine ot_getC E fl_11_28 dX11_failsAtCommand_84 h_m.1 rfl ?_
            refine or_iload_n E rfl dX11_failsAtCommand_87 ?_
            refine or_iload_n E rfl dX11_failsAtCommand_88 ?_
            refine ot_iast (j := 13 * (tn (I m 15))) E dX11_failsAtCommand_89 h_m.2.2.2.2.2.1 rfl rfl (by subst hr2 hI1; have := tn_ne hc q27; omega) (Nat.le_of_ble_eq_true rfl) ?_
            obtain ⟨I3, hI3⟩ : ∃ y_ : ow_I, y_ = ow_u r2.2 (m + 5) (13 * (tn (I m 15))) (M_wordOf m I) := ⟨_, rfl⟩
            replace hk := lt_k (P := fun r : Bool × ow_I => K (some (.int (bi ((r).1)))) (S, (r).2, V, z)) hI3 hk
            refine or_nmI hI3 ?_
            refine or_aload_n E rfl dX11_failsAtCommand_90 ?_
            refine ot_getC E fl_11_28 dX11_failsAtCommand_91 h_m.1 rfl ?_
            refine or_iload_n E rfl dX11_failsAtCommand_94 ?_
            refine or_iconst (v := nI 1) E rfl dX11_failsAtCommand_95 ?_
            refine or_iaddN E dX11_failsAtCommand_96 ?_
            refine or_aload_n E rfl dX11_failsAtCommand_97 ?_
            refine ot_getI E fl_11_232 dX11_failsAtCommand_98 h_m.1 rfl ?_
            refine ot_iast (j := 13 * (tn (I m 15)) + 1) E dX11_failsAtCommand_101 h_m.2.2.2.2.2.1 rfl rfl (by subst hI3 hr2 hI1; have := tn_ne hc q27; omega) (Nat.le_of_ble_eq_true rfl) ?_
            obtain ⟨I4, hI4⟩ : ∃ y_ : ow_I, y_ = ow_u I3 (m + 5) (13 * (tn (I m 15)) + 1) (I3 m 13) := ⟨_, rfl⟩
            replace hk := lt_k (P := fun r : Bool × ow_I => K (some (.int (bi ((r).1)))) (S, (r).2, V, z)) hI4 hk
            refine or_nmI hI4 ?_
            refine or_iconst (v := nI 0) E rfl dX11_failsAtCommand_102 ?_
            refine or_istore_n E dX11_failsAtCommand_103 (by decide) ?_
            refine or_lv _ ?_ (L104 11 _ _ _ (by subst hI4 hI3 hr2 hI1; exact (mdW_row (mdW_row (W_rest (mdW_o hw _ (by decide) (by decide) (by decide))) (rr_u (by omega))) (rr_u (by omega)))) (by subst hI4 hI3 hr2 hI1; rw [rr_u (by omega), rr_u (by omega)]; exact (by rw [fr_rest (by decide), ow_u_s]; exact nI_ge0 (by decide))) (by subst hI4 hI3 hr2 hI1; rw [rr_u (by omega), rr_u (by omega)]; exact (by rw [fr_rest (by decide), ow_u_s]; exact (by decide))) (by subst hI4 hI3 hr2 hI1; have := tn_ne hc q27; omega) (by decide) (by decide) hk)
            rfl
          · replace hk := ite_n (P := fun r : Bool × ow_I => K (some (.int (bi ((r).1)))) (S, (r).2, V, z)) q68 hk
            refine or_aload_n E rfl dX11_failsAtCommand_71 ?_
            refine or_cV0v (cM_readToken  h_m (by subst hr2 hI1; exact (md_WT (W_rest (mdW_o hw _ (by decide) (by decide) (by decide)))))) E lk_11_211 dX11_failsAtCommand_72 h_m.1 rfl rfl (by decide) (by decide) ⟨Nat.le_refl _, Nat.le_refl _⟩ (Nat.le_of_ble_eq_true rfl) ?_
            obtain ⟨I8, hI8⟩ : ∃ y_ : ow_I, y_ = M_readToken m r2.2 := ⟨_, rfl⟩
            replace hk := lt_k (P := fun r : Bool × ow_I => K (some (.int (bi ((r).1)))) (S, (r).2, V, z)) hI8 hk
            refine or_nmI hI8 ?_
            refine or_bipush (v := nI 13) E rfl dX11_failsAtCommand_75 ?_
            refine or_aload_n E rfl dX11_failsAtCommand_77 ?_
            refine ot_getI E fl_11_208 dX11_failsAtCommand_78 h_m.1 rfl ?_
            refine or_top (y := nI (tn (I m 15))) (by subst hI8 hr2 hI1; rw [fr_readToken (by decide), fr_rest (by decide), ow_u_k _ _ _ _ (by decide), nI_tn hc]) ?_
            refine or_imulN E dX11_failsAtCommand_81 ?_
            refine or_istore_n E dX11_failsAtCommand_82 (by decide) ?_
            refine or_aload_n E rfl dX11_failsAtCommand_83 ?_
            refine ot_getC E fl_11_28 dX11_failsAtCommand_84 h_m.1 rfl ?_
            refine or_iload_n E rfl dX11_failsAtCommand_87 ?_
            refine or_iload_n E rfl dX11_failsAtCommand_88 ?_
            refine ot_iast (j := 13 * (tn (I m 15))) E dX11_failsAtCommand_89 h_m.2.2.2.2.2.1 rfl rfl (by subst hI8 hr2 hI1; have := tn_ne hc q27; omega) (Nat.le_of_ble_eq_true rfl) ?_
            obtain ⟨I9, hI9⟩ : ∃ y_ : ow_I, y_ = ow_u I8 (m + 5) (13 * (tn (I m 15))) (M_wordOf m I) := ⟨_, rfl⟩
            replace hk := lt_k (P := fun r : Bool × ow_I => K (some (.int (bi ((r).1)))) (S, (r).2, V, z)) hI9 hk
            refine or_nmI hI9 ?_
            refine or_aload_n E rfl dX11_failsAtCommand_90 ?_
            refine ot_getC E fl_11_28 dX11_failsAtCommand_91 h_m.1 rfl ?_
            refine or_iload_n E rfl dX11_failsAtCommand_94 ?_
            refine or_iconst (v := nI 1) E rfl dX11_failsAtCommand_95 ?_
            refine or_iaddN E dX11_failsAtCommand_96 ?_
            refine or_aload_n E rfl dX11_failsAtCommand_97 ?_
            refine ot_getI E fl_11_232 dX11_failsAtCommand_98 h_m.1 rfl ?_
            refine ot_iast (j := 13 * (tn (I m 15)) + 1) E dX11_failsAtCommand_101 h_m.2.2.2.2.2.1 rfl rfl (by subst hI9 hI8 hr2 hI1; have := tn_ne hc q27; omega) (Nat.le_of_ble_eq_true rfl) ?_
            obtain ⟨I10, hI10⟩ : ∃ y_ : ow_I, y_ = ow_u I9 (m + 5) (13 * (tn (I m 15)) + 1) (I9 m 13) := ⟨_, rfl⟩
            replace hk := lt_k (P := fun r : Bool × ow_I => K (some (.int (bi ((r).1)))) (S, (r).2, V, z)) hI10 hk
            refine or_nmI hI10 ?_
            refine or_iconst (v := nI 0) E rfl dX11_failsAtCommand_102 ?_
            refine or_istore_n E dX11_failsAtCommand_103 (by decide) ?_
            refine or_lv _ ?_ (L104 11 _ _ _ (by subst hI10 hI9 hI8 hr2 hI1; exact (mdW_row (mdW_row (W_readToken (md_WT (W_rest (mdW_o hw _ (by decide) (by decide) (by decide))))) (rr_u (by omega))) (rr_u (by omega)))) (by subst hI10 hI9 hI8 hr2 hI1; rw [rr_u (by omega), rr_u (by omega)]; exact (by rw [fr_readToken (by decide), fr_rest (by decide), ow_u_s]; exact nI_ge0 (by decide))) (by subst hI10 hI9 hI8 hr2 hI1; rw [rr_u (by omega), rr_u (by omega)]; exact (by rw [fr_readToken (by decide), fr_rest (by decide), ow_u_s]; exact (by decide))) (by subst hI10 hI9 hI8 hr2 hI1; have := tn_ne hc q27; omega) (by decide) (by decide) hk)
            rfl
        · replace hk := ite_p (P := fun r : Bool × ow_I => K (some (.int (bi ((r).1)))) (S, (r).2, V, z)) q61 hk
          refine or_iconst (v := nI 1) E rfl dX11_failsAtCommand_64 ?_
          try dsimp only at hk
          exact or_zret E F dX11_failsAtCommand_65 (Nat.le_refl _) (Nat.le_refl _) (bi_nar true) hk
      · replace hk := ite_p (P := fun r : Bool × ow_I => K (some (.int (bi ((r).1)))) (S, (r).2, V, z)) q43 hk
        refine or_aload_n E rfl dX11_failsAtCommand_46 ?_
        refine or_cV0r (cM_failsAtBarrel  h_m (by subst hI1; exact (md_WT (mdW_o hw _ (by decide) (by decide) (by decide))))) E lk_11_235 dX11_failsAtCommand_47 h_m.1 rfl rfl (by decide) (by decide) ⟨Nat.le_refl _, Nat.le_refl _⟩ (Nat.le_of_ble_eq_true rfl) ?_
        obtain ⟨r11, hr11⟩ : ∃ y_ : Bool × ow_I, y_ = M_failsAtBarrel m I1 := ⟨_, rfl⟩
        replace hk := lt_k (P := fun r : Bool × ow_I => K (some (.int (bi ((r).1)))) (S, (r).2, V, z)) hr11 hk
        refine or_nmZ hr11 ?_
        refine or_if_eqZ 66 E dX11_failsAtCommand_50 rfl (fun q50 => ?_) (fun q50 => ?_)
        · replace hk := ite_n (P := fun r : Bool × ow_I => K (some (.int (bi ((r).1)))) (S, (r).2, V, z)) (bz_neg q50) hk
          refine or_iload_n E rfl dX11_failsAtCommand_66 ?_
          refine or_iconst (v := nI 2) E rfl dX11_failsAtCommand_67 ?_
          refine or_icmp_eq 75 E dX11_failsAtCommand_68 rfl (fun q68 => ?_) (fun q68 => ?_)
          · replace hk := ite_p (P := fun r : Bool × ow_I => K (some (.int (bi ((r).1)))) (S, (r).2, V, z)) q68 hk
            refine or_bipush (v := nI 13) E rfl dX11_failsAtCommand_75 ?_
            refine or_aload_n E rfl dX11_failsAtCommand_77 ?_
            refine ot_getI E fl_11_208 dX11_failsAtCommand_78 h_m.1 rfl ?_
            refine or_top (y := nI (tn (I m 15))) (by subst hr11 hI1; rw [fr_brl (by decide), ow_u_k _ _ _ _ (by decide), nI_tn hc]) ?_
            refine or_imulN E dX11_failsAtCommand_81 ?_
            refine or_istore_n E dX11_failsAtCommand_82 (by decide) ?_
            refine or_aload_n E rfl dX11_failsAtCommand_83 ?_
            refine ot_getC E fl_11_28 dX11_failsAtCommand_84 h_m.1 rfl ?_
            refine or_iload_n E rfl dX11_failsAtCommand_87 ?_
            refine or_iload_n E rfl dX11_failsAtCommand_88 ?_
            refine ot_iast (j := 13 * (tn (I m 15))) E dX11_failsAtCommand_89 h_m.2.2.2.2.2.1 rfl rfl (by subst hr11 hI1; have := tn_ne hc q27; omega) (Nat.le_of_ble_eq_true rfl) ?_
            obtain ⟨I12, hI12⟩ : ∃ y_ : ow_I, y_ = ow_u r11.2 (m + 5) (13 * (tn (I m 15))) (M_wordOf m I) := ⟨_, rfl⟩
            replace hk := lt_k (P := fun r : Bool × ow_I => K (some (.int (bi ((r).1)))) (S, (r).2, V, z)) hI12 hk
            refine or_nmI hI12 ?_
            refine or_aload_n E rfl dX11_failsAtCommand_90 ?_
            refine ot_getC E fl_11_28 dX11_failsAtCommand_91 h_m.1 rfl ?_
            refine or_iload_n E rfl dX11_failsAtCommand_94 ?_
            refine or_iconst (v := nI 1) E rfl dX11_failsAtCommand_95 ?_
            refine or_iaddN E dX11_failsAtCommand_96 ?_
            refine or_aload_n E rfl dX11_failsAtCommand_97 ?_
            refine ot_getI E fl_11_232 dX11_failsAtCommand_98 h_m.1 rfl ?_
            refine ot_iast (j := 13 * (tn (I m 15)) + 1) E dX11_failsAtCommand_101 h_m.2.2.2.2.2.1 rfl rfl (by subst hI12 hr11 hI1; have := tn_ne hc q27; omega) (Nat.le_of_ble_eq_true rfl) ?_
            obtain ⟨I13, hI13⟩ : ∃ y_ : ow_I, y_ = ow_u I12 (m + 5) (13 * (tn (I m 15)) + 1) (I12 m 13) := ⟨_, rfl⟩
            replace hk := lt_k (P := fun r : Bool × ow_I => K (some (.int (bi ((r).1)))) (S, (r).2, V, z)) hI13 hk
            refine or_nmI hI13 ?_
            refine or_iconst (v := nI 0) E rfl dX11_failsAtCommand_102 ?_
            refine or_istore_n E dX11_failsAtCommand_103 (by decide) ?_
            refine or_lv _ ?_ (L104 11 _ _ _ (by subst hI13 hI12 hr11 hI1; exact (mdW_row (mdW_row (W_brl (md_WT (mdW_o hw _ (by decide) (by decide) (by decide)))) (rr_u (by omega))) (rr_u (by omega)))) (by subst hI13 hI12 hr11 hI1; rw [rr_u (by omega), rr_u (by omega)]; exact (N13_brl q50).1) (by subst hI13 hI12 hr11 hI1; rw [rr_u (by omega), rr_u (by omega)]; exact (N13_brl q50).2.2) (by subst hI13 hI12 hr11 hI1; have := tn_ne hc q27; omega) (by decide) (by decide) hk)
            rfl
          · replace hk := ite_n (P := fun r : Bool × ow_I => K (some (.int (bi ((r).1)))) (S, (r).2, V, z)) q68 hk
            refine or_aload_n E rfl dX11_failsAtCommand_71 ?_
            refine or_cV0v (cM_readToken  h_m (by subst hr11 hI1; exact (md_WT (W_brl (md_WT (mdW_o hw _ (by decide) (by decide) (by decide))))))) E lk_11_211 dX11_failsAtCommand_72 h_m.1 rfl rfl (by decide) (by decide) ⟨Nat.le_refl _, Nat.le_refl _⟩ (Nat.le_of_ble_eq_true rfl) ?_
            obtain ⟨I14, hI14⟩ : ∃ y_ : ow_I, y_ = M_readToken m r11.2 := ⟨_, rfl⟩
            replace hk := lt_k (P := fun r : Bool × ow_I => K (some (.int (bi ((r).1)))) (S, (r).2, V, z)) hI14 hk
            refine or_nmI hI14 ?_
            refine or_bipush (v := nI 13) E rfl dX11_failsAtCommand_75 ?_
            refine or_aload_n E rfl dX11_failsAtCommand_77 ?_
            refine ot_getI E fl_11_208 dX11_failsAtCommand_78 h_m.1 rfl ?_
            refine or_top (y := nI (tn (I m 15))) (by subst hI14 hr11 hI1; rw [fr_readToken (by decide), fr_brl (by decide), ow_u_k _ _ _ _ (by decide), nI_tn hc]) ?_
            refine or_imulN E dX11_failsAtCommand_81 ?_
            refine or_istore_n E dX11_failsAtCommand_82 (by decide) ?_
            refine or_aload_n E rfl dX11_failsAtCommand_83 ?_
            refine ot_getC E fl_11_28 dX11_failsAtCommand_84 h_m.1 rfl ?_
            refine or_iload_n E rfl dX11_failsAtCommand_87 ?_
            refine or_iload_n E rfl dX11_failsAtCommand_88 ?_
            refine ot_iast (j := 13 * (tn (I m 15))) E dX11_failsAtCommand_89 h_m.2.2.2.2.2.1 rfl rfl (by subst hI14 hr11 hI1; have := tn_ne hc q27; omega) (Nat.le_of_ble_eq_true rfl) ?_
            obtain ⟨I15, hI15⟩ : ∃ y_ : ow_I, y_ = ow_u I14 (m + 5) (13 * (tn (I m 15))) (M_wordOf m I) := ⟨_, rfl⟩
            replace hk := lt_k (P := fun r : Bool × ow_I => K (some (.int (bi ((r).1)))) (S, (r).2, V, z)) hI15 hk
            refine or_nmI hI15 ?_
            refine or_aload_n E rfl dX11_failsAtCommand_90 ?_
            refine ot_getC E fl_11_28 dX11_failsAtCommand_91 h_m.1 rfl ?_
            refine or_iload_n E rfl dX11_failsAtCommand_94 ?_
            refine or_iconst (v := nI 1) E rfl dX11_failsAtCommand_95 ?_
            refine or_iaddN E dX11_failsAtCommand_96 ?_
            refine or_aload_n E rfl dX11_failsAtCommand_97 ?_
            refine ot_getI E fl_11_232 dX11_failsAtCommand_98 h_m.1 rfl ?_
            refine ot_iast (j := 13 * (tn (I m 15)) + 1) E dX11_failsAtCommand_101 h_m.2.2.2.2.2.1 rfl rfl (by subst hI15 hI14 hr11 hI1; have := tn_ne hc q27; omega) (Nat.le_of_ble_eq_true rfl) ?_
            obtain ⟨I16, hI16⟩ : ∃ y_ : ow_I, y_ = ow_u I15 (m + 5) (13 * (tn (I m 15)) + 1) (I15 m 13) := ⟨_, rfl⟩
            replace hk := lt_k (P := fun r : Bool × ow_I => K (some (.int (bi ((r).1)))) (S, (r).2, V, z)) hI16 hk
            refine or_nmI hI16 ?_
            refine or_iconst (v := nI 0) E rfl dX11_failsAtCommand_102 ?_
            refine or_istore_n E dX11_failsAtCommand_103 (by decide) ?_
            refine or_lv _ ?_ (L104 11 _ _ _ (by subst hI16 hI15 hI14 hr11 hI1; exact (mdW_row (mdW_row (W_readToken (md_WT (W_brl (md_WT (mdW_o hw _ (by decide) (by decide) (by decide)))))) (rr_u (by omega))) (rr_u (by omega)))) (by subst hI16 hI15 hI14 hr11 hI1; rw [rr_u (by omega), rr_u (by omega)]; exact (by rw [fr_readToken (by decide)]; exact (N13_brl q50).1)) (by subst hI16 hI15 hI14 hr11 hI1; rw [rr_u (by omega), rr_u (by omega)]; exact (by rw [fr_readToken (by decide)]; exact (N13_brl q50).2.2)) (by subst hI16 hI15 hI14 hr11 hI1; have := tn_ne hc q27; omega) (by decide) (by decide) hk)
            rfl
        · replace hk := ite_p (P := fun r : Bool × ow_I => K (some (.int (bi ((r).1)))) (S, (r).2, V, z)) q50 hk
          refine or_goto 64 E dX11_failsAtCommand_53 rfl ?_
          refine or_iconst (v := nI 1) E rfl dX11_failsAtCommand_64 ?_
          try dsimp only at hk
          exact or_zret E F dX11_failsAtCommand_65 (Nat.le_refl _) (Nat.le_refl _) (bi_nar true) hk
    · replace hk := ite_p (P := fun r : Bool × ow_I => K (some (.int (bi ((r).1)))) (S, (r).2, V, z)) q27 hk
      refine or_aload_n E rfl dX11_failsAtCommand_30 ?_
      refine or_iconst (v := nI 3) E rfl dX11_failsAtCommand_31 ?_
      refine or_cV1r (cM_fails  h_m ) E lk_11_214 dX11_failsAtCommand_32 h_m.1 rfl rfl (by decide) (by decide) ⟨Nat.le_refl _, Nat.le_refl _⟩ (Nat.le_of_ble_eq_true rfl) ?_
      obtain ⟨r17, hr17⟩ : ∃ y_ : Bool × ow_I, y_ = M_fails m (nI 3) I := ⟨_, rfl⟩
      replace hk := lt_k (P := fun r : Bool × ow_I => K (some (.int (bi ((r).1)))) (S, (r).2, V, z)) hr17 hk
      refine or_nmZ hr17 ?_
      try dsimp only at hk
      exact or_zret E F dX11_failsAtCommand_35 (Nat.le_refl _) (Nat.le_refl _) (bi_nar _) hk
  · replace hk := ite_n (P := fun r : Bool × ow_I => K (some (.int (bi ((r).1)))) (S, (r).2, V, z)) (bz_neg q12) hk
    refine or_aload_n E rfl dX11_failsAtCommand_15 ?_
    refine or_iconst (v := nI 1) E rfl dX11_failsAtCommand_16 ?_
    refine or_cV1r (cM_fails  h_m ) E lk_11_214 dX11_failsAtCommand_17 h_m.1 rfl rfl (by decide) (by decide) ⟨Nat.le_refl _, Nat.le_refl _⟩ (Nat.le_of_ble_eq_true rfl) ?_
    obtain ⟨r18, hr18⟩ : ∃ y_ : Bool × ow_I, y_ = M_fails m (nI 1) I := ⟨_, rfl⟩
    replace hk := lt_k (P := fun r : Bool × ow_I => K (some (.int (bi ((r).1)))) (S, (r).2, V, z)) hr18 hk
    refine or_nmZ hr18 ?_
    try dsimp only at hk
    exact or_zret E F dX11_failsAtCommand_20 (Nat.le_refl _) (Nat.le_refl _) (bi_nar _) hk
