theorem fl_11_183 : ow_fl RX11 183 11 11 := ⟨_, rfl, by decide, ow_T_in 1646 (by decide +kernel) (by decide +kernel), ow_ok11⟩
theorem fl_11_186 : ow_fl RX11 186 11 8 := ⟨_, rfl, by decide, ow_T_in 1643 (by decide +kernel) (by decide +kernel), ow_ok11⟩
theorem fl_11_193 : ow_fl RX11 193 11 10 := ⟨_, rfl, by decide, ow_T_in 1645 (by decide +kernel) (by decide +kernel), ow_ok11⟩
theorem fl_11_196 : ow_fl RX11 196 11 9 := ⟨_, rfl, by decide, ow_T_in 1644 (by decide +kernel) (by decide +kernel), ow_ok11⟩
theorem fw_11_8 : ∃ r : vw_C, ow_cl[11]? = some r ∧ (r.2.1 8).2.2.2 = false ∧ parseFieldDescriptor (r.2.1 8).2.2.1 = some .int := ⟨_, rfl, rfl, by decide +kernel⟩
theorem fw_11_9 : ∃ r : vw_C, ow_cl[11]? = some r ∧ (r.2.1 9).2.2.2 = false ∧ parseFieldDescriptor (r.2.1 9).2.2.1 = some .int := ⟨_, rfl, rfl, by decide +kernel⟩
theorem fw_11_10 : ∃ r : vw_C, ow_cl[11]? = some r ∧ (r.2.1 10).2.2.2 = false ∧ parseFieldDescriptor (r.2.1 10).2.2.1 = some .int := ⟨_, rfl, rfl, by decide +kernel⟩
theorem fw_11_11 : ∃ r : vw_C, ow_cl[11]? = some r ∧ (r.2.1 11).2.2.2 = false ∧ parseFieldDescriptor (r.2.1 11).2.2.1 = some .int := ⟨_, rfl, rfl, by decide +kernel⟩
theorem lk_11_189 : ow_lv RX11 189 yX11_isDigit cX11_isDigit 2 (some .boolean) 1 := ⟨ow_T_in 1756 (by decide +kernel) (by decide +kernel), ow_T_in 1758 (by decide +kernel) (by decide +kernel), ow_T_sel 51 (by decide +kernel) (by decide +kernel), ow_T_in 19 (by decide +kernel) (by decide +kernel), ow_T_in 1759 (by decide +kernel) (by decide +kernel), ⟨by decide +kernel, by decide +kernel, by decide +kernel⟩⟩
theorem lk_11_199 : ow_lv RX11 199 yX11_isLetter cX11_isLetter 2 (some .boolean) 1 := ⟨ow_T_in 1752 (by decide +kernel) (by decide +kernel), ow_T_in 1754 (by decide +kernel) (by decide +kernel), ow_T_sel 50 (by decide +kernel) (by decide +kernel), ow_T_in 19 (by decide +kernel) (by decide +kernel), ow_T_in 1755 (by decide +kernel) (by decide +kernel), ⟨by decide +kernel, by decide +kernel, by decide +kernel⟩⟩
theorem lk_11_202 : ow_lv RX11 202 yX11_readNumber cX11_readNumber 1 none 0 := ⟨ow_T_in 1760 (by decide +kernel) (by decide +kernel), ow_T_in 1762 (by decide +kernel) (by decide +kernel), ow_T_sel 52 (by decide +kernel) (by decide +kernel), ow_T_in 19 (by decide +kernel) (by decide +kernel), ow_T_in 1763 (by decide +kernel) (by decide +kernel), ⟨by decide +kernel, by decide +kernel, by decide +kernel⟩⟩
theorem wd_1764 : Cond.constant RX11 192 (nI 10000000) ∈ ow_T := ow_T_in 1764 (by decide +kernel) (by decide +kernel)
def M_readNumber_L5 (m : Nat) : Nat → ow_I → ow_I
  | 0, I => I
  | n + 1, I => if M_isDigit m (tn (I m 8)) I then lt (ow_u I m 11 ((I m 11) * (nI 10) + (I (m + 3) (tn (I m 8))) - (nI 48))) (fun (I2 : ow_I) => if I2 m 11 ≤ nI 10000000 then lt (ow_u I2 m 8 (I2 m 8 + (nI 1))) (fun (I3 : ow_I) => M_readNumber_L5 m n I3 ) else lt (ow_u I2 m 11 (nI 10000000)) (fun (I4 : ow_I) => lt (ow_u I4 m 8 (I4 m 8 + (nI 1))) (fun (I5 : ow_I) => M_readNumber_L5 m n I5 ))) else I
def M_readNumber (m : Nat) (I : ow_I) : ow_I :=
  lt (ow_u I m 11 (nI 0)) (fun (I1 : ow_I) => M_readNumber_L5 m 501 I1 )
set_option maxRecDepth 100000 in
set_option maxHeartbeats 400000 in
theorem cM_readNumber {S : Nat → Option ow_Sh} {I : ow_I} {V : Nat → Nat → Value} {z : Nat} {m : Nat} (h_m : md_S S m) (ht : md_T m I) : ow_Cf yX11_readNumber cX11_readNumber 1 none 2 [.ref m] (S, I, V, z) none (S, M_readNumber m I, V, z) := by
  refine ow_Cf.of rfl (Nat.le_of_ble_eq_true rfl) (fun X K E F hk => ?_)
  have E : ow_E X RX11 cX11_readNumber 1 (ow_rm 2 0 0) := E
  refine or_lv [(0, .ref m)] rfl ?_
  have L5 : ∀ (n : Nat) (I : ow_I)  (ht : md_T m I) (hm : tn (I m 5) - tn (I m 8) < n) (hk : K none (S, M_readNumber_L5 m n I , V, z)), ow_W X 0 0 (S, I, V, z) 5 [(0, .ref m)] [] := by
    intro n
    induction n with
    | zero => intro I  ht hm; omega
    | succ n ih =>
      intro I  ht hm hk
      dsimp only [M_readNumber_L5] at hk
      have hl := ht.1
      have hn := ht.2
      refine or_aload_n E rfl dX11_readNumber_5 ?_
      refine or_aload_n E rfl dX11_readNumber_6 ?_
      refine ot_getI E fl_11_186 dX11_readNumber_7 h_m.1 rfl ?_
      refine or_top (nI_tn ht.2.1).symm ?_
      refine or_cV1r (cM_isDigit  h_m (by have := ht.2; omega) hl.1 hl.2) E lk_11_189 dX11_readNumber_10 h_m.1 rfl rfl (by decide) (by decide) ⟨Nat.le_refl _, Nat.le_refl _⟩ (Nat.le_of_ble_eq_true rfl) ?_
      refine or_if_eqZ 68 E dX11_readNumber_13 rfl (fun q13 => ?_) (fun q13 => ?_)
      · replace hk := ite_n (P := fun r : ow_I => K none (S, r, V, z)) (bz_neg q13) hk
        exact or_vret E F dX11_readNumber_68 (Nat.le_refl _) (Nat.le_refl _) hk
      · replace hk := ite_p (P := fun r : ow_I => K none (S, r, V, z)) q13 hk
        refine or_aload_n E rfl dX11_readNumber_16 ?_
        refine or_aload_n E rfl dX11_readNumber_17 ?_
        refine ot_getI E fl_11_183 dX11_readNumber_18 h_m.1 rfl ?_
        refine or_bipush (v := nI 10) E rfl dX11_readNumber_21 ?_
        refine or_imul E dX11_readNumber_23 ?_
        refine or_aload_n E rfl dX11_readNumber_24 ?_
        refine ot_getC E fl_11_17 dX11_readNumber_25 h_m.1 rfl ?_
        refine or_aload_n E rfl dX11_readNumber_28 ?_
        refine ot_getI E fl_11_186 dX11_readNumber_29 h_m.1 rfl ?_
        refine or_top (nI_tn ht.2.1).symm ?_
        refine ot_bald (j := tn (I m 8)) E dX11_readNumber_32 h_m.2.2.2.1 rfl rfl (by have := isDigit_lt q13; omega) (Nat.le_of_ble_eq_true rfl) ?_
        refine or_iadd E dX11_readNumber_33 ?_
        refine or_bipush (v := nI 48) E rfl dX11_readNumber_34 ?_
        refine or_isub E dX11_readNumber_36 ?_
        refine ot_putI E fl_11_183 fw_11_11 dX11_readNumber_37 h_m.1 rfl ?_
        obtain ⟨I2, hI2⟩ : ∃ y_ : ow_I, y_ = ow_u I m 11 ((I m 11) * (nI 10) + (I (m + 3) (tn (I m 8))) - (nI 48)) := ⟨_, rfl⟩
        replace hk := lt_k (P := fun r : ow_I => K none (S, r, V, z)) hI2 hk
        refine or_nmI hI2 ?_
        refine or_aload_n E rfl dX11_readNumber_40 ?_
        refine ot_getI E fl_11_183 dX11_readNumber_41 h_m.1 rfl ?_
        refine or_ldc (v := nI 10000000) E wd_1764 dX11_readNumber_44 ?_
        refine or_icmp_le 55 E dX11_readNumber_46 rfl (fun q46 => ?_) (fun q46 => ?_)
        · replace hk := ite_p (P := fun r : ow_I => K none (S, r, V, z)) q46 hk
          refine or_aload_n E rfl dX11_readNumber_55 ?_
          refine or_dup E rfl dX11_readNumber_56 ?_
          refine ot_getI E fl_11_186 dX11_readNumber_57 h_m.1 rfl ?_
          refine or_iconst (v := nI 1) E rfl dX11_readNumber_60 ?_
          refine or_iadd E dX11_readNumber_61 ?_
          refine ot_putI E fl_11_186 fw_11_8 dX11_readNumber_62 h_m.1 rfl ?_
          obtain ⟨I3, hI3⟩ : ∃ y_ : ow_I, y_ = ow_u I2 m 8 (I2 m 8 + (nI 1)) := ⟨_, rfl⟩
          replace hk := lt_k (P := fun r : ow_I => K none (S, r, V, z)) hI3 hk
          refine or_nmI hI3 ?_
          refine or_goto 5 E dX11_readNumber_65 rfl ?_
          refine or_lv _ ?_ (ih _  (by subst hI3 hI2; exact (mdT_n (mdT_o ht _ (by decide) (by decide)) (by simp (disch := omega) only [ow_u_k]; exact isDigit_lt q13))) (by subst hI3 hI2; simp (disch := omega) only [ow_u_k, ow_u_s]; rw [(tn_inc ht.2.1 (by have := ht.1; have := ht.2; omega)).2]; have := isDigit_lt q13; omega) hk)
          rfl
        · replace hk := ite_n (P := fun r : ow_I => K none (S, r, V, z)) q46 hk
          refine or_aload_n E rfl dX11_readNumber_49 ?_
          refine or_ldc (v := nI 10000000) E wd_1764 dX11_readNumber_50 ?_
          refine ot_putI E fl_11_183 fw_11_11 dX11_readNumber_52 h_m.1 rfl ?_
          obtain ⟨I4, hI4⟩ : ∃ y_ : ow_I, y_ = ow_u I2 m 11 (nI 10000000) := ⟨_, rfl⟩
          replace hk := lt_k (P := fun r : ow_I => K none (S, r, V, z)) hI4 hk
          refine or_nmI hI4 ?_
          refine or_aload_n E rfl dX11_readNumber_55 ?_
          refine or_dup E rfl dX11_readNumber_56 ?_
          refine ot_getI E fl_11_186 dX11_readNumber_57 h_m.1 rfl ?_
          refine or_iconst (v := nI 1) E rfl dX11_readNumber_60 ?_
          refine or_iadd E dX11_readNumber_61 ?_
          refine ot_putI E fl_11_186 fw_11_8 dX11_readNumber_62 h_m.1 rfl ?_
          obtain ⟨I5, hI5⟩ : ∃ y_ : ow_I, y_ = ow_u I4 m 8 (I4 m 8 + (nI 1)) := ⟨_, rfl⟩
          replace hk := lt_k (P := fun r : ow_I => K none (S, r, V, z)) hI5 hk
          refine or_nmI hI5 ?_
          refine or_goto 5 E dX11_readNumber_65 rfl ?_
          refine or_lv _ ?_ (ih _  (by subst hI5 hI4 hI2; exact (mdT_n (mdT_o (mdT_o ht _ (by decide) (by decide)) _ (by decide) (by decide)) (by simp (disch := omega) only [ow_u_k]; exact isDigit_lt q13))) (by subst hI5 hI4 hI2; simp (disch := omega) only [ow_u_k, ow_u_s]; rw [(tn_inc ht.2.1 (by have := ht.1; have := ht.2; omega)).2]; have := isDigit_lt q13; omega) hk)
          rfl
  dsimp only [M_readNumber] at hk
  refine or_aload_n E rfl dX11_readNumber_0 ?_
  refine or_iconst (v := nI 0) E rfl dX11_readNumber_1 ?_
  refine ot_putI E fl_11_183 fw_11_11 dX11_readNumber_2 h_m.1 rfl ?_
  obtain ⟨I1, hI1⟩ : ∃ y_ : ow_I, y_ = ow_u I m 11 (nI 0) := ⟨_, rfl⟩
  replace hk := lt_k (P := fun r : ow_I => K none (S, r, V, z)) hI1 hk
  refine or_nmI hI1 ?_
  refine or_lv _ ?_ (L5 501 _  (by subst hI1; exact (mdT_o ht _ (by decide) (by decide))) (by subst hI1; simp (disch := omega) only [ow_u_k]; have := ht.1; omega) hk)
  rfl
def M_readToken_L69 (m : Nat) : Nat → ow_I → ow_I
  | 0, I => I
  | n + 1, I => if M_isLetter m (tn (I m 8)) I then lt (ow_u I m 8 (I m 8 + (nI 1))) (fun (I9 : ow_I) => M_readToken_L69 m n I9 ) else I
def M_readToken_L0 (m : Nat) : Nat → ow_I → ow_I
  | 0, I => I
  | n + 1, I => if M_byteAt m (tn (I m 8)) I = nI 32 then lt (ow_u I m 8 (I m 8 + (nI 1))) (fun (I11 : ow_I) => M_readToken_L0 m n I11 ) else lt (ow_u I m 10 (I m 8)) (fun (I1 : ow_I) => if I1 m 8 = I1 m 5 then lt (ow_u I1 m 9 (nI 0)) (fun (I10 : ow_I) => I10) else if M_isLetter m (tn (I m 8)) I1 then lt (ow_u I1 m 9 (nI 1)) (fun (I8 : ow_I) => M_readToken_L69 m 501 I8 ) else if M_isDigit m (tn (I m 8)) I1 then lt (ow_u I1 m 9 (nI 2)) (fun (I6 : ow_I) => lt (M_readNumber m I6) (fun (I7 : ow_I) => I7)) else if M_byteAt m (tn (I m 8)) I1 = nI 59 then lt (ow_u I1 m 9 (nI 3)) (fun (I4 : ow_I) => lt (ow_u I4 m 8 (I4 m 8 + (nI 1))) (fun (I5 : ow_I) => I5)) else lt (ow_u I1 m 9 (nI 4)) (fun (I2 : ow_I) => lt (ow_u I2 m 8 (I2 m 8 + (nI 1))) (fun (I3 : ow_I) => I3)))
def M_readToken (m : Nat) (I : ow_I) : ow_I :=
  M_readToken_L0 m 501 I 
set_option maxRecDepth 100000 in
set_option maxHeartbeats 400000 in
theorem cM_readToken {S : Nat → Option ow_Sh} {I : ow_I} {V : Nat → Nat → Value} {z : Nat} {m : Nat} (h_m : md_S S m) (ht : md_T m I) : ow_Cf yX11_readToken cX11_readToken 1 none 3 [.ref m] (S, I, V, z) none (S, M_readToken m I, V, z) := by
  refine ow_Cf.of rfl (Nat.le_of_ble_eq_true rfl) (fun X K E F hk => ?_)
  have E : ow_E X RX11 cX11_readToken 1 (ow_rm 3 0 0) := E
  refine or_lv [(0, .ref m)] rfl ?_
  have L69 : ∀ (n : Nat) (I : ow_I)  (ht : md_T m I) (hm : tn (I m 5) - tn (I m 8) < n) (hk : K none (S, M_readToken_L69 m n I , V, z)), ow_W X 0 0 (S, I, V, z) 69 [(0, .ref m)] [] := by
    intro n
    induction n with
    | zero => intro I  ht hm; omega
    | succ n ih =>
      intro I  ht hm hk
      dsimp only [M_readToken_L69] at hk
      refine or_aload_n E rfl dX11_readToken_69 ?_
      refine or_aload_n E rfl dX11_readToken_70 ?_
      refine ot_getI E fl_11_186 dX11_readToken_71 h_m.1 rfl ?_
      refine or_top (nI_tn ht.2.1).symm ?_
      refine or_cV1r (cM_isLetter  h_m (by have := ht.1; have := ht.2; omega) ht.1.1 ht.1.2) E lk_11_199 dX11_readToken_74 h_m.1 rfl rfl (by decide) (by decide) ⟨Nat.le_refl _, Nat.le_refl _⟩ (Nat.le_of_ble_eq_true rfl) ?_
      refine or_if_eqZ 148 E dX11_readToken_77 rfl (fun q77 => ?_) (fun q77 => ?_)
      · replace hk := ite_n (P := fun r : ow_I => K none (S, r, V, z)) (bz_neg q77) hk
        exact or_vret E F dX11_readToken_148 (Nat.le_refl _) (Nat.le_refl _) hk
      · replace hk := ite_p (P := fun r : ow_I => K none (S, r, V, z)) q77 hk
        refine or_aload_n E rfl dX11_readToken_80 ?_
        refine or_dup E rfl dX11_readToken_81 ?_
        refine ot_getI E fl_11_186 dX11_readToken_82 h_m.1 rfl ?_
        refine or_iconst (v := nI 1) E rfl dX11_readToken_85 ?_
        refine or_iadd E dX11_readToken_86 ?_
        refine ot_putI E fl_11_186 fw_11_8 dX11_readToken_87 h_m.1 rfl ?_
        obtain ⟨I9, hI9⟩ : ∃ y_ : ow_I, y_ = ow_u I m 8 (I m 8 + (nI 1)) := ⟨_, rfl⟩
        replace hk := lt_k (P := fun r : ow_I => K none (S, r, V, z)) hI9 hk
        refine or_nmI hI9 ?_
        refine or_goto 69 E dX11_readToken_90 rfl ?_
        refine or_lv _ ?_ (ih _  (by subst hI9; exact (mdT_n ht (isLetter_lt q77))) (by subst hI9; simp (disch := omega) only [ow_u_k, ow_u_s]; rw [(tn_inc ht.2.1 (by have := ht.1; have := ht.2; omega)).2]; have := isLetter_lt q77; omega) hk)
        rfl
  have L0 : ∀ (n : Nat) (I : ow_I)  (ht : md_T m I) (hm : tn (I m 5) - tn (I m 8) < n) (hk : K none (S, M_readToken_L0 m n I , V, z)), ow_W X 0 0 (S, I, V, z) 0 [(0, .ref m)] [] := by
    intro n
    induction n with
    | zero => intro I  ht hm; omega
    | succ n ih =>
      intro I  ht hm hk
      dsimp only [M_readToken_L0] at hk
      refine or_aload_n E rfl dX11_readToken_0 ?_
      refine or_aload_n E rfl dX11_readToken_1 ?_
      refine ot_getI E fl_11_186 dX11_readToken_2 h_m.1 rfl ?_
      refine or_top (nI_tn ht.2.1).symm ?_
      refine or_cV1r (cM_byteAt  h_m (by have := ht.1; have := ht.2; omega) ht.1.1 ht.1.2) E lk_11_180 dX11_readToken_5 h_m.1 rfl rfl (by decide) (by decide) ⟨Nat.le_refl _, Nat.le_refl _⟩ (Nat.le_of_ble_eq_true rfl) ?_
      refine or_bipush (v := nI 32) E rfl dX11_readToken_8 ?_
      refine or_icmp_ne 26 E dX11_readToken_10 rfl (fun q10 => ?_) (fun q10 => ?_)
      · replace hk := ite_n (P := fun r : ow_I => K none (S, r, V, z)) q10 hk
        refine or_aload_n E rfl dX11_readToken_26 ?_
        refine or_aload_n E rfl dX11_readToken_27 ?_
        refine ot_getI E fl_11_186 dX11_readToken_28 h_m.1 rfl ?_
        refine ot_putI E fl_11_193 fw_11_10 dX11_readToken_31 h_m.1 rfl ?_
        obtain ⟨I1, hI1⟩ : ∃ y_ : ow_I, y_ = ow_u I m 10 (I m 8) := ⟨_, rfl⟩
        replace hk := lt_k (P := fun r : ow_I => K none (S, r, V, z)) hI1 hk
        refine or_nmI hI1 ?_
        refine or_aload_n E rfl dX11_readToken_34 ?_
        refine ot_getI E fl_11_186 dX11_readToken_35 h_m.1 rfl ?_
        refine or_aload_n E rfl dX11_readToken_38 ?_
        refine ot_getI E fl_11_163 dX11_readToken_39 h_m.1 rfl ?_
        refine or_icmp_ne 53 E dX11_readToken_42 rfl (fun q42 => ?_) (fun q42 => ?_)
        · replace hk := ite_n (P := fun r : ow_I => K none (S, r, V, z)) q42 hk
          refine or_aload_n E rfl dX11_readToken_53 ?_
          refine or_aload_n E rfl dX11_readToken_54 ?_
          refine ot_getI E fl_11_186 dX11_readToken_55 h_m.1 rfl ?_
          refine or_top (y := nI (tn (I m 8))) (by subst hI1; rw [ow_u_k _ _ _ _ (by decide), nI_tn ht.2.1]) ?_
          refine or_cV1r (cM_isLetter  h_m (by subst hI1; have := ht.1; have := ht.2; omega) (by subst hI1; simp (disch := omega) only [ow_u_k]; exact ht.1.1) (by subst hI1; simp (disch := omega) only [ow_u_k]; exact ht.1.2)) E lk_11_199 dX11_readToken_58 h_m.1 rfl rfl (by decide) (by decide) ⟨Nat.le_refl _, Nat.le_refl _⟩ (Nat.le_of_ble_eq_true rfl) ?_
          refine or_if_eqZ 93 E dX11_readToken_61 rfl (fun q61 => ?_) (fun q61 => ?_)
          · replace hk := ite_n (P := fun r : ow_I => K none (S, r, V, z)) (bz_neg q61) hk
            refine or_aload_n E rfl dX11_readToken_93 ?_
            refine or_aload_n E rfl dX11_readToken_94 ?_
            refine ot_getI E fl_11_186 dX11_readToken_95 h_m.1 rfl ?_
            refine or_top (y := nI (tn (I m 8))) (by subst hI1; rw [ow_u_k _ _ _ _ (by decide), nI_tn ht.2.1]) ?_
            refine or_cV1r (cM_isDigit  h_m (by subst hI1; have := ht.1; have := ht.2; omega) (by subst hI1; simp (disch := omega) only [ow_u_k]; exact ht.1.1) (by subst hI1; simp (disch := omega) only [ow_u_k]; exact ht.1.2)) E lk_11_189 dX11_readToken_98 h_m.1 rfl rfl (by decide) (by decide) ⟨Nat.le_refl _, Nat.le_refl _⟩ (Nat.le_of_ble_eq_true rfl) ?_
            refine or_if_eqZ 116 E dX11_readToken_101 rfl (fun q101 => ?_) (fun q101 => ?_)
            · replace hk := ite_n (P := fun r : ow_I => K none (S, r, V, z)) (bz_neg q101) hk
              refine or_aload_n E rfl dX11_readToken_116 ?_
              refine or_aload_n E rfl dX11_readToken_117 ?_
              refine or_aload_n E rfl dX11_readToken_118 ?_
              refine ot_getI E fl_11_186 dX11_readToken_119 h_m.1 rfl ?_
              refine or_top (y := nI (tn (I m 8))) (by subst hI1; rw [ow_u_k _ _ _ _ (by decide), nI_tn ht.2.1]) ?_
              refine or_cV1r (cM_byteAt  h_m (by subst hI1; have := ht.1; have := ht.2; omega) (by subst hI1; simp (disch := omega) only [ow_u_k]; exact ht.1.1) (by subst hI1; simp (disch := omega) only [ow_u_k]; exact ht.1.2)) E lk_11_180 dX11_readToken_122 h_m.1 rfl rfl (by decide) (by decide) ⟨Nat.le_refl _, Nat.le_refl _⟩ (Nat.le_of_ble_eq_true rfl) ?_
              refine or_bipush (v := nI 59) E rfl dX11_readToken_125 ?_
              refine or_icmp_ne 134 E dX11_readToken_127 rfl (fun q127 => ?_) (fun q127 => ?_)
              · replace hk := ite_n (P := fun r : ow_I => K none (S, r, V, z)) q127 hk
                refine or_iconst (v := nI 4) E rfl dX11_readToken_134 ?_
                refine ot_putI E fl_11_196 fw_11_9 dX11_readToken_135 h_m.1 rfl ?_
                obtain ⟨I2, hI2⟩ : ∃ y_ : ow_I, y_ = ow_u I1 m 9 (nI 4) := ⟨_, rfl⟩
                replace hk := lt_k (P := fun r : ow_I => K none (S, r, V, z)) hI2 hk
                refine or_nmI hI2 ?_
                refine or_aload_n E rfl dX11_readToken_138 ?_
                refine or_dup E rfl dX11_readToken_139 ?_
                refine ot_getI E fl_11_186 dX11_readToken_140 h_m.1 rfl ?_
                refine or_iconst (v := nI 1) E rfl dX11_readToken_143 ?_
                refine or_iadd E dX11_readToken_144 ?_
                refine ot_putI E fl_11_186 fw_11_8 dX11_readToken_145 h_m.1 rfl ?_
                obtain ⟨I3, hI3⟩ : ∃ y_ : ow_I, y_ = ow_u I2 m 8 (I2 m 8 + (nI 1)) := ⟨_, rfl⟩
                replace hk := lt_k (P := fun r : ow_I => K none (S, r, V, z)) hI3 hk
                refine or_nmI hI3 ?_
                exact or_vret E F dX11_readToken_148 (Nat.le_refl _) (Nat.le_refl _) hk
              · replace hk := ite_p (P := fun r : ow_I => K none (S, r, V, z)) q127 hk
                refine or_iconst (v := nI 3) E rfl dX11_readToken_130 ?_
                refine or_goto 135 E dX11_readToken_131 rfl ?_
                refine ot_putI E fl_11_196 fw_11_9 dX11_readToken_135 h_m.1 rfl ?_
                obtain ⟨I4, hI4⟩ : ∃ y_ : ow_I, y_ = ow_u I1 m 9 (nI 3) := ⟨_, rfl⟩
                replace hk := lt_k (P := fun r : ow_I => K none (S, r, V, z)) hI4 hk
                refine or_nmI hI4 ?_
                refine or_aload_n E rfl dX11_readToken_138 ?_
                refine or_dup E rfl dX11_readToken_139 ?_
                refine ot_getI E fl_11_186 dX11_readToken_140 h_m.1 rfl ?_
                refine or_iconst (v := nI 1) E rfl dX11_readToken_143 ?_
                refine or_iadd E dX11_readToken_144 ?_
                refine ot_putI E fl_11_186 fw_11_8 dX11_readToken_145 h_m.1 rfl ?_
                obtain ⟨I5, hI5⟩ : ∃ y_ : ow_I, y_ = ow_u I4 m 8 (I4 m 8 + (nI 1)) := ⟨_, rfl⟩
                replace hk := lt_k (P := fun r : ow_I => K none (S, r, V, z)) hI5 hk
                refine or_nmI hI5 ?_
                exact or_vret E F dX11_readToken_148 (Nat.le_refl _) (Nat.le_refl _) hk
            · replace hk := ite_p (P := fun r : ow_I => K none (S, r, V, z)) q101 hk
              refine or_aload_n E rfl dX11_readToken_104 ?_
              refine or_iconst (v := nI 2) E rfl dX11_readToken_105 ?_
              refine ot_putI E fl_11_196 fw_11_9 dX11_readToken_106 h_m.1 rfl ?_
              obtain ⟨I6, hI6⟩ : ∃ y_ : ow_I, y_ = ow_u I1 m 9 (nI 2) := ⟨_, rfl⟩
              replace hk := lt_k (P := fun r : ow_I => K none (S, r, V, z)) hI6 hk
              refine or_nmI hI6 ?_
              refine or_aload_n E rfl dX11_readToken_109 ?_
              refine or_cV0v (cM_readNumber  h_m (by subst hI6 hI1; exact (mdT_o (mdT_o ht _ (by decide) (by decide)) _ (by decide) (by decide)))) E lk_11_202 dX11_readToken_110 h_m.1 rfl rfl (by decide) (by decide) ⟨Nat.le_refl _, Nat.le_refl _⟩ (Nat.le_of_ble_eq_true rfl) ?_
              obtain ⟨I7, hI7⟩ : ∃ y_ : ow_I, y_ = M_readNumber m I6 := ⟨_, rfl⟩
              replace hk := lt_k (P := fun r : ow_I => K none (S, r, V, z)) hI7 hk
              refine or_nmI hI7 ?_
              refine or_goto 148 E dX11_readToken_113 rfl ?_
              exact or_vret E F dX11_readToken_148 (Nat.le_refl _) (Nat.le_refl _) hk
          · replace hk := ite_p (P := fun r : ow_I => K none (S, r, V, z)) q61 hk
            refine or_aload_n E rfl dX11_readToken_64 ?_
            refine or_iconst (v := nI 1) E rfl dX11_readToken_65 ?_
            refine ot_putI E fl_11_196 fw_11_9 dX11_readToken_66 h_m.1 rfl ?_
            obtain ⟨I8, hI8⟩ : ∃ y_ : ow_I, y_ = ow_u I1 m 9 (nI 1) := ⟨_, rfl⟩
            replace hk := lt_k (P := fun r : ow_I => K none (S, r, V, z)) hI8 hk
            refine or_nmI hI8 ?_
            refine or_lv _ ?_ (L69 501 _  (by subst hI8 hI1; exact (mdT_o (mdT_o ht _ (by decide) (by decide)) _ (by decide) (by decide))) (by subst hI8 hI1; simp (disch := omega) only [ow_u_k]; have := ht.1; omega) hk)
            rfl
        · replace hk := ite_p (P := fun r : ow_I => K none (S, r, V, z)) q42 hk
          refine or_aload_n E rfl dX11_readToken_45 ?_
          refine or_iconst (v := nI 0) E rfl dX11_readToken_46 ?_
          refine ot_putI E fl_11_196 fw_11_9 dX11_readToken_47 h_m.1 rfl ?_
          obtain ⟨I10, hI10⟩ : ∃ y_ : ow_I, y_ = ow_u I1 m 9 (nI 0) := ⟨_, rfl⟩
          replace hk := lt_k (P := fun r : ow_I => K none (S, r, V, z)) hI10 hk
          refine or_nmI hI10 ?_
          refine or_goto 148 E dX11_readToken_50 rfl ?_
          exact or_vret E F dX11_readToken_148 (Nat.le_refl _) (Nat.le_refl _) hk
      · replace hk := ite_p (P := fun r : ow_I => K none (S, r, V, z)) q10 hk
        refine or_aload_n E rfl dX11_readToken_13 ?_
        refine or_dup E rfl dX11_readToken_14 ?_
        refine ot_getI E fl_11_186 dX11_readToken_15 h_m.1 rfl ?_
        refine or_iconst (v := nI 1) E rfl dX11_readToken_18 ?_
        refine or_iadd E dX11_readToken_19 ?_
        refine ot_putI E fl_11_186 fw_11_8 dX11_readToken_20 h_m.1 rfl ?_
        obtain ⟨I11, hI11⟩ : ∃ y_ : ow_I, y_ = ow_u I m 8 (I m 8 + (nI 1)) := ⟨_, rfl⟩
        replace hk := lt_k (P := fun r : ow_I => K none (S, r, V, z)) hI11 hk
        refine or_nmI hI11 ?_
        refine or_goto 0 E dX11_readToken_23 rfl ?_
        refine or_lv _ ?_ (ih _  (by subst hI11; exact (mdT_n ht (byteAt_lt (by rw [q10]; decide)))) (by subst hI11; simp (disch := omega) only [ow_u_k, ow_u_s]; rw [(tn_inc ht.2.1 (by have := ht.1; have := ht.2; omega)).2]; have := @byteAt_lt m (tn (I m 8)) I (by rw [q10]; decide); omega) hk)
        rfl
  dsimp only [M_readToken] at hk
  refine or_lv _ ?_ (L0 501 _  ht (by have := ht.1; omega) hk)
  rfl
