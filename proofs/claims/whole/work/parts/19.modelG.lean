theorem sh8 {c : Nat} (h : 1 ≤ c) : nI (8 * c) - 8 + Int32.ofInt (-8) = nI (8 * (c - 1)) - 8 := by
  obtain ⟨d, rfl⟩ : ∃ d, c = d + 1 := ⟨c - 1, by omega⟩
  rw [show 8 * (d + 1) = 8 * d + 8 by omega, ← nI_add, show nI 8 = (8 : Int32) from rfl, show d + 1 - 1 = d by omega, Int32.add_sub_cancel, Int32.sub_eq_add_neg]
  rfl
theorem sh8_c {c : Nat} {s : Int32} (hs : s = nI (8 * c) - 8) (h : ¬ s < 0) : 1 ≤ c := by
  rcases Nat.eq_zero_or_pos c with z | z
  · exact absurd (by rw [hs, z]; decide) h
  · exact z
theorem fl_11_17 : ow_fl RX11 17 11 4 := ⟨_, rfl, by decide, ow_T_in 1639 (by decide +kernel) (by decide +kernel), ow_ok11⟩
theorem fl_11_163 : ow_fl RX11 163 11 5 := ⟨_, rfl, by decide, ow_T_in 1640 (by decide +kernel) (by decide +kernel), ow_ok11⟩
theorem fw_11_5 : ∃ r : vw_C, ow_cl[11]? = some r ∧ (r.2.1 5).2.2.2 = false ∧ parseFieldDescriptor (r.2.1 5).2.2.1 = some .int := ⟨_, rfl, rfl, by decide +kernel⟩
theorem lk_11_173 : ow_ls RX11 173 yX11_in cX11_in 3 (some .boolean) 3 := ⟨rfl, ow_T_in 1717 (by decide +kernel) (by decide +kernel), ow_T_in 1718 (by decide +kernel) (by decide +kernel), ow_T_in 19 (by decide +kernel) (by decide +kernel), ow_T_in 1719 (by decide +kernel) (by decide +kernel), ⟨by decide +kernel, by decide +kernel, by decide +kernel⟩⟩
theorem lk_11_180 : ow_lv RX11 180 yX11_byteAt cX11_byteAt 2 (some .int) 1 := ⟨ow_T_in 1748 (by decide +kernel) (by decide +kernel), ow_T_in 1750 (by decide +kernel) (by decide +kernel), ow_T_sel 49 (by decide +kernel) (by decide +kernel), ow_T_in 19 (by decide +kernel) (by decide +kernel), ow_T_in 1751 (by decide +kernel) (by decide +kernel), ⟨by decide +kernel, by decide +kernel, by decide +kernel⟩⟩
def M_appendWord_L3 (m : Nat) (w : Int32) : Nat → ow_I → Int32 → ow_I
  | 0, I, _ => I
  | n + 1, I, s => if s < 0 then I else lt (ow_u I (m + 3) (tn (I m 5)) (((w >>> (s &&& 31)).toInt8.toInt32).toInt8.toInt32)) (fun (I1 : ow_I) => lt (ow_u I1 m 5 (I1 m 5 + (nI 1))) (fun (I2 : ow_I) => M_appendWord_L3 m w n I2 (s + Int32.ofInt (-8))))
def M_appendWord (m : Nat) (w : Int32) (I : ow_I) : ow_I :=
  M_appendWord_L3 m w 5 I (nI 24)
set_option maxRecDepth 100000 in
set_option maxHeartbeats 400000 in
theorem cM_appendWord {S : Nat → Option ow_Sh} {I : ow_I} {V : Nat → Nat → Value} {z : Nat} {m : Nat} {w : Int32} (h_m : md_S S m) (hl : 0 ≤ I m 5) (hlb : tn (I m 5) ≤ 496) : ow_Cf yX11_appendWord cX11_appendWord 3 none 0 [.ref m, .int w] (S, I, V, z) none (S, M_appendWord m w I, V, z) := by
  refine ow_Cf.of rfl (Nat.le_of_ble_eq_true rfl) (fun X K E F hk => ?_)
  have E : ow_E X RX11 cX11_appendWord 3 (ow_rm 0 0 0) := E
  refine or_lv [(0, .ref m), (1, .int w)] rfl ?_
  have L3 : ∀ (n : Nat) (I : ow_I) (s : Int32) (c : Nat) (hs : s = nI (8 * c) - 8) (hc : c ≤ 4) (hl : 0 ≤ I m 5) (hlb : tn (I m 5) + c ≤ 500) (hm : c < n) (hk : K none (S, M_appendWord_L3 m w n I s, V, z)), ow_W X 0 0 (S, I, V, z) 3 [(0, .ref m), (1, .int w), (2, .int s)] [] := by
    intro n
    induction n with
    | zero => intro I s c hs hc hl hlb hm; omega
    | succ n ih =>
      intro I s c hs hc hl hlb hm hk
      dsimp only [M_appendWord_L3] at hk
      refine or_iload_n E rfl dX11_appendWord_3 ?_
      refine or_if_lt 36 E dX11_appendWord_4 rfl (fun q4 => ?_) (fun q4 => ?_)
      · replace hk := ite_p (P := fun r : ow_I => K none (S, r, V, z)) q4 hk
        exact or_vret E F dX11_appendWord_36 (Nat.le_refl _) (Nat.le_refl _) hk
      · replace hk := ite_n (P := fun r : ow_I => K none (S, r, V, z)) q4 hk
        refine or_aload_n E rfl dX11_appendWord_7 ?_
        refine ot_getC E fl_11_17 dX11_appendWord_8 h_m.1 rfl ?_
        refine or_aload_n E rfl dX11_appendWord_11 ?_
        refine ot_getI E fl_11_163 dX11_appendWord_12 h_m.1 rfl ?_
        refine or_top (nI_tn hl).symm ?_
        refine or_iload_n E rfl dX11_appendWord_15 ?_
        refine or_iload_n E rfl dX11_appendWord_16 ?_
        refine or_ishr E dX11_appendWord_17 ?_
        refine or_i2b E dX11_appendWord_18 ?_
        refine ot_bast (j := tn (I m 5)) E dX11_appendWord_19 h_m.2.2.2.1 rfl rfl (by have := sh8_c hs q4; omega) (Nat.le_of_ble_eq_true rfl) ?_
        obtain ⟨I1, hI1⟩ : ∃ y_ : ow_I, y_ = ow_u I (m + 3) (tn (I m 5)) (((w >>> (s &&& 31)).toInt8.toInt32).toInt8.toInt32) := ⟨_, rfl⟩
        replace hk := lt_k (P := fun r : ow_I => K none (S, r, V, z)) hI1 hk
        refine or_nmI hI1 ?_
        refine or_aload_n E rfl dX11_appendWord_20 ?_
        refine or_dup E rfl dX11_appendWord_21 ?_
        refine ot_getI E fl_11_163 dX11_appendWord_22 h_m.1 rfl ?_
        refine or_iconst (v := nI 1) E rfl dX11_appendWord_25 ?_
        refine or_iadd E dX11_appendWord_26 ?_
        refine ot_putI E fl_11_163 fw_11_5 dX11_appendWord_27 h_m.1 rfl ?_
        obtain ⟨I2, hI2⟩ : ∃ y_ : ow_I, y_ = ow_u I1 m 5 (I1 m 5 + (nI 1)) := ⟨_, rfl⟩
        replace hk := lt_k (P := fun r : ow_I => K none (S, r, V, z)) hI2 hk
        refine or_nmI hI2 ?_
        refine or_iinc E dX11_appendWord_30 rfl (by decide) ?_
        refine or_goto 3 E dX11_appendWord_33 rfl ?_
        refine or_lv _ ?_ (ih _ _ (c - 1) (by subst hI2 hI1; rw [hs]; exact sh8 (sh8_c hs q4)) (by subst hI2 hI1; omega) (by subst hI2 hI1; rw [ow_u_s, ow_u_a _ _ _ _ (by omega)]; exact (tn_inc hl (by omega)).1) (by subst hI2 hI1; have := sh8_c hs q4; rw [ow_u_s, ow_u_a _ _ _ _ (by omega), (tn_inc hl (by omega)).2]; omega) (by subst hI2 hI1; have := sh8_c hs q4; omega) hk)
        rfl
  dsimp only [M_appendWord] at hk
  refine or_bipush (v := nI 24) E rfl dX11_appendWord_0 ?_
  refine or_istore_n E dX11_appendWord_2 (by decide) ?_
  refine or_lv _ ?_ (L3 5 _ _ 4 rfl (by omega) hl (by omega) (by omega) hk)
  rfl
def M_byteAt (m : Nat) (i : Nat) (I : ow_I) : Int32 :=
  if tn (I m 5) ≤ i then (-1000) else I (m + 3) i
set_option maxRecDepth 100000 in
set_option maxHeartbeats 400000 in
theorem cM_byteAt {S : Nat → Option ow_Sh} {I : ow_I} {V : Nat → Nat → Value} {z : Nat} {m : Nat} {i : Nat} (h_m : md_S S m) (hib : i < 2 ^ 31) (hl : 0 ≤ I m 5) (hlb : tn (I m 5) ≤ 500) : ow_Cf yX11_byteAt cX11_byteAt 2 (some .int) 0 [.ref m, .int (nI i)] (S, I, V, z) (some (.int (M_byteAt m i I))) (S, I, V, z) := by
  refine ow_Cf.of rfl (Nat.le_of_ble_eq_true rfl) (fun X K E F hk => ?_)
  have E : ow_E X RX11 cX11_byteAt 2 (ow_rm 0 0 0) := E
  refine or_lv [(0, .ref m), (1, .int (nI i))] rfl ?_
  dsimp only [M_byteAt] at hk
  refine or_iload_n E rfl dX11_byteAt_0 ?_
  refine or_aload_n E rfl dX11_byteAt_1 ?_
  refine ot_getI E fl_11_163 dX11_byteAt_2 h_m.1 rfl ?_
  refine or_top (nI_tn hl).symm ?_
  refine or_icmp_geN 17 E dX11_byteAt_5 rfl (by omega) (by omega) (fun q5 => ?_) (fun q5 => ?_)
  · replace hk := ite_p (P := fun r : Int32 => K (some (.int (r))) (S, I, V, z)) q5 hk
    refine or_sipush (v := -1000) E rfl dX11_byteAt_17 ?_
    exact or_iret E F dX11_byteAt_20 (Nat.le_refl _) (Nat.le_refl _) hk
  · replace hk := ite_n (P := fun r : Int32 => K (some (.int (r))) (S, I, V, z)) q5 hk
    refine or_aload_n E rfl dX11_byteAt_8 ?_
    refine ot_getC E fl_11_17 dX11_byteAt_9 h_m.1 rfl ?_
    refine or_iload_n E rfl dX11_byteAt_12 ?_
    refine ot_bald (j := i) E dX11_byteAt_13 h_m.2.2.2.1 rfl rfl (by omega) (Nat.le_of_ble_eq_true rfl) ?_
    refine or_goto 20 E dX11_byteAt_14 rfl ?_
    exact or_iret E F dX11_byteAt_20 (Nat.le_refl _) (Nat.le_refl _) hk
def M_isLetter (m : Nat) (i : Nat) (I : ow_I) : Bool :=
  M_in (M_byteAt m i I) (nI 97) (nI 122) I
set_option maxRecDepth 100000 in
set_option maxHeartbeats 400000 in
theorem cM_isLetter {S : Nat → Option ow_Sh} {I : ow_I} {V : Nat → Nat → Value} {z : Nat} {m : Nat} {i : Nat} (h_m : md_S S m) (hib : i < 2 ^ 31) (hl : 0 ≤ I m 5) (hlb : tn (I m 5) ≤ 500) : ow_Cf yX11_isLetter cX11_isLetter 2 (some .boolean) 1 [.ref m, .int (nI i)] (S, I, V, z) (some (.int (bi (M_isLetter m i I)))) (S, I, V, z) := by
  refine ow_Cf.of rfl (Nat.le_of_ble_eq_true rfl) (fun X K E F hk => ?_)
  have E : ow_E X RX11 cX11_isLetter 2 (ow_rm 1 0 0) := E
  refine or_lv [(0, .ref m), (1, .int (nI i))] rfl ?_
  dsimp only [M_isLetter] at hk
  refine or_aload_n E rfl dX11_isLetter_0 ?_
  refine or_iload_n E rfl dX11_isLetter_1 ?_
  refine or_cV1r (cM_byteAt  h_m hib hl hlb) E lk_11_180 dX11_isLetter_2 h_m.1 rfl rfl (by decide) (by decide) ⟨Nat.le_refl _, Nat.le_refl _⟩ (Nat.le_of_ble_eq_true rfl) ?_
  refine or_bipush (v := nI 97) E rfl dX11_isLetter_5 ?_
  refine or_bipush (v := nI 122) E rfl dX11_isLetter_7 ?_
  refine or_cS3r (cM_in   ) E lk_11_173 dX11_isLetter_9 (by decide) (by decide) ⟨Nat.le_refl _, Nat.le_refl _⟩ (Nat.le_of_ble_eq_true rfl) ?_
  exact or_zret E F dX11_isLetter_12 (Nat.le_refl _) (Nat.le_refl _) (bi_nar _) hk
def M_isDigit (m : Nat) (i : Nat) (I : ow_I) : Bool :=
  M_in (M_byteAt m i I) (nI 48) (nI 57) I
set_option maxRecDepth 100000 in
set_option maxHeartbeats 400000 in
theorem cM_isDigit {S : Nat → Option ow_Sh} {I : ow_I} {V : Nat → Nat → Value} {z : Nat} {m : Nat} {i : Nat} (h_m : md_S S m) (hib : i < 2 ^ 31) (hl : 0 ≤ I m 5) (hlb : tn (I m 5) ≤ 500) : ow_Cf yX11_isDigit cX11_isDigit 2 (some .boolean) 1 [.ref m, .int (nI i)] (S, I, V, z) (some (.int (bi (M_isDigit m i I)))) (S, I, V, z) := by
  refine ow_Cf.of rfl (Nat.le_of_ble_eq_true rfl) (fun X K E F hk => ?_)
  have E : ow_E X RX11 cX11_isDigit 2 (ow_rm 1 0 0) := E
  refine or_lv [(0, .ref m), (1, .int (nI i))] rfl ?_
  dsimp only [M_isDigit] at hk
  refine or_aload_n E rfl dX11_isDigit_0 ?_
  refine or_iload_n E rfl dX11_isDigit_1 ?_
  refine or_cV1r (cM_byteAt  h_m hib hl hlb) E lk_11_180 dX11_isDigit_2 h_m.1 rfl rfl (by decide) (by decide) ⟨Nat.le_refl _, Nat.le_refl _⟩ (Nat.le_of_ble_eq_true rfl) ?_
  refine or_bipush (v := nI 48) E rfl dX11_isDigit_5 ?_
  refine or_bipush (v := nI 57) E rfl dX11_isDigit_7 ?_
  refine or_cS3r (cM_in   ) E lk_11_173 dX11_isDigit_9 (by decide) (by decide) ⟨Nat.le_refl _, Nat.le_refl _⟩ (Nat.le_of_ble_eq_true rfl) ?_
  exact or_zret E F dX11_isDigit_12 (Nat.le_refl _) (Nat.le_refl _) (bi_nar _) hk
