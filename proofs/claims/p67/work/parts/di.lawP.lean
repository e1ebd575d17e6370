theorem tf_S {a n : Nat} {t : Nat → Nat} {S S2 : Nat → Option ow_Sh} {I J : ow_I} {V V2 : Nat → Nat → Value} {z z2 : Nat} (h : tf a n t (S, I, V, z)) (e1 : S2 a = S a) (e2 : S2 (a + 1) = S (a + 1)) (e3 : J a = I a) (e4 : J (a + 1) = I (a + 1)) : tf a n t (S2, J, V2, z2) := by
  obtain ⟨h1, h2, h3, h4, h5⟩ := h
  refine ⟨e1.trans h1, (congrFun e3 1).trans h2, e2.trans h3, h4, fun i hi => ⟨(h5 i hi).1, (congrFun e4 i).trans (h5 i hi).2⟩⟩
def inQ (x n : Nat) (t : Nat → Nat) (I J : ow_I) : Prop := J (x + 515 + 1) 1 = nI n ∧ (∀ k, k ≠ 1 → J (x + 515 + 1) k = I (x + 515 + 1) k) ∧ (∀ i, i < n → J (x + 515 + 1 + 1) i = nI (t i)) ∧ ∀ a, a ≠ x + 515 + 1 → a ≠ x + 515 + 1 + 1 → J a = I a
theorem lk_120_7 : ow_lv RX120 7 yX10_truncate cX10_truncate 2 (some .int) 1 := ⟨ow_T_in 766 (by decide +kernel) (by decide +kernel), ow_T_in 767 (by decide +kernel) (by decide +kernel), ow_T_in 768 (by decide +kernel) (by decide +kernel), ow_T_in 1 (by decide +kernel) (by decide +kernel), ow_T_in 769 (by decide +kernel) (by decide +kernel), ⟨by decide +kernel, by decide +kernel, by decide +kernel⟩⟩
theorem lk_120_13 : ow_lv RX120 13 yJ0_length_8abf5 cJ0_length_8abf5 1 (some .int) 0 := ⟨ow_T_in 840 (by decide +kernel) (by decide +kernel), ow_T_in 365 (by decide +kernel) (by decide +kernel), ow_T_in 366 (by decide +kernel) (by decide +kernel), ow_T_in 14 (by decide +kernel) (by decide +kernel), ow_T_in 367 (by decide +kernel) (by decide +kernel), ⟨by decide +kernel, by decide +kernel, by decide +kernel⟩⟩
theorem lk_120_19 : ow_lv RX120 19 yJ0_charAt_5068e cJ0_charAt_5068e 2 (some .char) 1 := ⟨ow_T_in 841 (by decide +kernel) (by decide +kernel), ow_T_in 374 (by decide +kernel) (by decide +kernel), ow_T_in 375 (by decide +kernel) (by decide +kernel), ow_T_in 14 (by decide +kernel) (by decide +kernel), ow_T_in 376 (by decide +kernel) (by decide +kernel), ⟨by decide +kernel, by decide +kernel, by decide +kernel⟩⟩
theorem lk_120_23 : ow_lv RX120 23 yX10_append cX10_append 7 (some .int) 5 := ⟨ow_T_in 842 (by decide +kernel) (by decide +kernel), ow_T_in 843 (by decide +kernel) (by decide +kernel), ow_T_in 844 (by decide +kernel) (by decide +kernel), ow_T_in 1 (by decide +kernel) (by decide +kernel), ow_T_in 845 (by decide +kernel) (by decide +kernel), ⟨by decide +kernel, by decide +kernel, by decide +kernel⟩⟩
set_option maxRecDepth 100000 in
set_option maxHeartbeats 4000000 in
theorem tL_input {Z : Nat → Nat} {S : Nat → Option ow_Sh} {I : ow_I} {V : Nat → Nat → Value} {z x a n : Nat} {t : Nat → Nat} (h_x : au_S S x) (hX : au_V x I) (hr : tf a n t (S, I, V, z)) (ha : x + 666 ≤ a) (haz : a + 1 < z) : ow_Cx Z yL_input cL_input 5 none 5 16 80 [.ref x, .ref a] (S, I, V, z) (fun c r h1 => c = 0 ∧ r = none ∧ ∃ (J : ow_I) (z' : Nat), z ≤ z' ∧ h1 = (S, J, V, z') ∧ inQ x n t I J) := by
  obtain ⟨Kc, hKc⟩ : ∃ Kc : Nat → Option Value → ow_H → Prop, Kc = (fun c r h1 => c = 0 ∧ r = none ∧ ∃ (J : ow_I) (z' : Nat), z ≤ z' ∧ h1 = (S, J, V, z') ∧ inQ x n t I J) := ⟨_, rfl⟩
  rw [← hKc]
  refine ow_Cx.of rfl (Nat.le_of_ble_eq_true rfl) (fun X E G F => ?_)
  have E : ow_E X RX120 cL_input 5 (ow_rm 5 16 80) := E
  refine or_ltz (fun hlt => ?_)
  have hn3 : n ≤ 300 := hr.2.2.2.1
  have hT : ∀ i, tx t n i < 128 := fun i => by
    unfold tx
    split
    · exact (hr.2.2.2.2 i (by assumption)).1
    · decide
  have tT : ∀ i, i < n → tx t n i = t i := fun i hi => if_pos hi
  have hin := hX.2.2.2.2.2.1
  refine or_lv [(0, .ref x), (1, .ref a)] rfl ?_
  have L8 : ∀ (fuel c : Nat) (J : ow_I) (zz : Nat), z ≤ zz → c ≤ 15 → ad (x + 515 + 1) (tx t n) 0 0 (20 * c) I J → 20 * c < n + 20 → n + 20 - 20 * c < fuel → ow_W X c (5 * c) (S, J, V, zz) 8 [(0, .ref x), (1, .ref a), (2, .int (nI (20 * c)))] [] := by
    intro fuel
    induction fuel with
    | zero => intro c J zz h1 h2 h3 h4 h5; omega
    | succ fuel ih =>
      intro c J zz hz hc had hcn hf
      have hXJ : au_V x J := ad_V hX had (by omega)
      have had5 := had.2.2.2.2
      have hrJ : ∀ z2, tf a n t (S, J, V, z2) := fun z2 => tf_S hr rfl rfl (had5 a (by omega) (by omega)) (had5 (a + 1) (by omega) (by omega))
      refine or_iload_n E rfl dL_input_8 ?_
      refine or_aload_n E rfl dL_input_9 ?_
      refine or_fV0r (cj0_lengthR (Z := Z) (Or.inr (hrJ zz))) E G F lk_120_13 dL_input_10 (hrJ zz).1 rfl rfl (by decide) (by decide) ⟨by omega, by omega⟩ (Nat.le_of_ble_eq_true rfl) (fun _ => ?_) (fun h => absurd h (Nat.lt_irrefl 0))
      refine or_icmp_geN 101 E dL_input_13 rfl (by omega) (by omega) (fun q13 => ?_) (fun q13 => ?_)
      · skip
        refine or_aload_n E rfl dL_input_101 ?_
        refine or_aload_n E rfl dL_input_102 ?_
        refine or_fV0r (cj0_lengthR (Z := Z) (Or.inr (hrJ zz))) E G F lk_120_13 dL_input_103 (hrJ zz).1 rfl rfl (by decide) (by decide) ⟨by omega, by omega⟩ (Nat.le_of_ble_eq_true rfl) (fun _ => ?_) (fun h => absurd h (Nat.lt_irrefl 0))
        refine or_fV1r (cA_truncate (Z := Z) h_x (nI_ge0 (by omega)) (by rw [had.1]; exact nI_rg (by omega) (by omega))) E G F lk_120_7 dL_input_106 h_x.1 rfl rfl (by decide) (by decide) ⟨by omega, by omega⟩ (Nat.le_of_ble_eq_true rfl) (fun _ => ?_) (fun h => absurd h (Nat.lt_irrefl 0))
        refine or_pop E rfl dL_input_109 ?_
        exact or_xr E F (fun X' E' F' => or_vret E' F' dL_input_110 (by omega) (by omega) (by
          rw [hKc]
          refine ⟨rfl, rfl, _, zz, hz, rfl, ?_⟩
          unfold A_truncate
          simp only [lt]
          refine ⟨ow_u_s _ _ _ _, fun k hk => ?_, fun i hi => ?_, fun b h1 h2 => ?_⟩
          · rw [ow_u_k _ _ _ _ hk]; exact had.2.1 k hk
          · rw [ow_u_a _ _ _ _ (by omega), ← tT i hi]
            have := had.2.2.2.1 i (by omega)
            rw [Nat.zero_add] at this
            exact this
          · funext k
            rw [ow_u_a _ _ _ _ h1]
            exact congrFun (had5 b h1 h2) k))
      refine or_iconst (v := nI 5) E rfl dL_input_16 ?_
      refine or_newa (atype := .int) (κ := ow_n) E (ow_T_in 97 (by decide +kernel) (by decide +kernel)) rfl (fun _ => rfl) dL_input_17 (by decide) (by decide) (by omega) (by omega) ?_
      refine or_astore_n E dL_input_19 (by decide) ?_
      refine or_iconst (v := nI 0) E rfl dL_input_20 ?_
      refine or_istore E dL_input_21 (by decide) ?_
      have S9z : (iA S zz 5) zz = some (.inr (.int, 5, ow_n)) := ow_nS_s _ _ _
      have f9 : ∀ J2 : ow_I, (∀ b, b ≠ zz → J2 b = J b) → frm S J V (iA S zz 5) J2 V := fun J2 hJ2 b sh hs => by
        have hb := hlt b sh hs
        exact ⟨(ow_nS_o S _ (by omega)).trans hs, fun k => by rw [hJ2 b (by omega)], fun _ => rfl⟩
      have hr9 : ∀ (J2 : ow_I) (z2 : Nat), (∀ b, b ≠ zz → J2 b = J b) → tf a n t (iA S zz 5, J2, V, z2) := fun J2 z2 hJ2 => tf_S (hrJ z2) (ow_nS_o S _ (by omega)) (ow_nS_o S _ (by omega)) (hJ2 a (by omega)) (hJ2 (a + 1) (by omega))
      have A75 : ∀ (J2 : ow_I) (k : Nat), (∀ b, b ≠ zz → J2 b = J b) → (∀ j, j < 5 → J2 zz j = nI (wv (tx t n) (20 * c + 4 * j) 4)) → ow_W X (c + 1) (5 * c + 5) (iA S zz 5, J2, V, zz + 1) 75 [(0, .ref x), (1, .ref a), (2, .int (nI (20 * c))), (3, .ref zz)] [] := by
        intro J2 k hJ2 hw
        refine or_aload_n E rfl dL_input_75 ?_
        refine or_aload_n E rfl dL_input_76 ?_
        refine or_iconst (v := nI 0) E rfl dL_input_77 ?_
        refine ot_iald (j := 0) E dL_input_78 S9z rfl rfl (by decide) (by decide) ?_
        refine or_top (hw 0 (by decide)) ?_
        refine or_aload_n E rfl dL_input_79 ?_
        refine or_iconst (v := nI 1) E rfl dL_input_80 ?_
        refine ot_iald (j := 1) E dL_input_81 S9z rfl rfl (by decide) (by decide) ?_
        refine or_top (hw 1 (by decide)) ?_
        refine or_aload_n E rfl dL_input_82 ?_
        refine or_iconst (v := nI 2) E rfl dL_input_83 ?_
        refine ot_iald (j := 2) E dL_input_84 S9z rfl rfl (by decide) (by decide) ?_
        refine or_top (hw 2 (by decide)) ?_
        refine or_aload_n E rfl dL_input_85 ?_
        refine or_iconst (v := nI 3) E rfl dL_input_86 ?_
        refine ot_iald (j := 3) E dL_input_87 S9z rfl rfl (by decide) (by decide) ?_
        refine or_top (hw 3 (by decide)) ?_
        refine or_aload_n E rfl dL_input_88 ?_
        refine or_iconst (v := nI 4) E rfl dL_input_89 ?_
        refine ot_iald (j := 4) E dL_input_90 S9z rfl rfl (by decide) (by decide) ?_
        refine or_top (hw 4 (by decide)) ?_
        refine or_fg (f9 J2 hJ2) ?_
        have e5 := had.1
        rw [Nat.zero_add] at e5
        refine or_fV5r (cA_append (Z := Z) h_x hXJ (by rw [e5, nI_add]; exact nI_rg (by omega) (by omega))) E G F lk_120_23 dL_input_91 h_x.1 rfl rfl (by decide) (by decide) ⟨by omega, by omega⟩ (Nat.le_of_ble_eq_true rfl) (fun _ => ?_) (fun h => absurd h (Nat.lt_irrefl 0))
        refine or_pop E rfl dL_input_94 ?_
        refine or_iincN (c := 20) E dL_input_95 rfl rfl (by decide) ?_
        refine or_goto 8 E dL_input_98 rfl ?_
        have h20 := ad_20 (T := tx t n) (s := 20 * c) hT e5 (by omega)
        have had2 := had.tr (m' := 20) (by rw [Nat.zero_add]; exact h20)
        exact or_wd (by omega) (by omega) (or_lv _ rfl (ih (c + 1) _ (zz + 1) (by omega) (by omega) had2 (by omega) (by omega)))
      have L23 : ∀ (f2 k : Nat) (J2 : ow_I), k ≤ 20 → (∀ b, b ≠ zz → J2 b = J b) → (∀ j, j < 5 → J2 zz j = nI (wv (tx t n) (20 * c + 4 * j) (min 4 (k - 4 * j)))) → 20 - k < f2 → ow_W X (c + 1) (5 * c + 5) (iA S zz 5, J2, V, zz + 1) 23 [(0, .ref x), (1, .ref a), (2, .int (nI (20 * c))), (3, .ref zz), (4, .int (nI k))] [] := by
        intro f2
        induction f2 with
        | zero => intro k J2 h1 h2 h3 h4; omega
        | succ f2 ih2 =>
          intro k J2 hk hJ2 hw hf2
          refine or_iload E rfl dL_input_23 ?_
          refine or_bipush (v := nI 20) E rfl dL_input_25 ?_
          refine or_icmp_geN 75 E dL_input_27 rfl (by omega) (by omega) (fun q27 => ?_) (fun q27 => ?_)
          · refine or_lv _ rfl (A75 J2 k hJ2 (fun j hj => ?_))
            rw [hw j hj, show min 4 (k - 4 * j) = 4 by omega]
          refine or_iload_n E rfl dL_input_30 ?_
          refine or_iload E rfl dL_input_31 ?_
          refine or_iaddN E dL_input_33 ?_
          refine or_aload_n E rfl dL_input_34 ?_
          refine or_fV0r (cj0_lengthR (Z := Z) (Or.inr (hr9 J2 (zz + 1) hJ2))) E G F lk_120_13 dL_input_35 (hr9 J2 (zz + 1) hJ2).1 rfl rfl (by decide) (by decide) ⟨by omega, by omega⟩ (Nat.le_of_ble_eq_true rfl) (fun _ => ?_) (fun h => absurd h (Nat.lt_irrefl 0))
          refine or_icmp_geN 75 E dL_input_38 rfl (by omega) (by omega) (fun q38 => ?_) (fun q38 => ?_)
          · refine or_lv _ rfl (A75 J2 k hJ2 (fun j hj => ?_))
            rw [hw j hj]
            by_cases h4 : 4 ≤ k - 4 * j
            · rw [show min 4 (k - 4 * j) = 4 by omega]
            have hm4 : min 4 (k - 4 * j) = k - 4 * j := by omega
            rw [hm4]
            have hz0 : ∀ i, 20 * c + 4 * j + (k - 4 * j) ≤ i → tx t n i = 0 := fun i hi => if_neg (by omega)
            have := wv_all hz0 (4 - (k - 4 * j))
            rw [show k - 4 * j + (4 - (k - 4 * j)) = 4 by omega] at this
            rw [this]
          refine or_aload_n E rfl dL_input_41 ?_
          refine or_iload E rfl dL_input_42 ?_
          refine or_iconst (v := nI 4) E rfl dL_input_44 ?_
          refine or_idivN E dL_input_45 (by omega) (by decide) (by decide) ?_
          refine or_dup2 E rfl rfl dL_input_46 ?_
          refine ot_iald (j := k / 4) E dL_input_47 S9z rfl rfl (by omega) (by decide) ?_
          have ew := hw (k / 4) (by omega)
          rw [show min 4 (k - 4 * (k / 4)) = k % 4 by omega] at ew
          refine or_top ew ?_
          refine or_aload_n E rfl dL_input_48 ?_
          refine or_iload_n E rfl dL_input_49 ?_
          refine or_iload E rfl dL_input_50 ?_
          refine or_iaddN E dL_input_52 ?_
          refine or_fV1r (cj0_charAtR (Z := Z) (Or.inr (hr9 J2 (zz + 1) hJ2)) (by omega)) E G F lk_120_19 dL_input_53 (hr9 J2 (zz + 1) hJ2).1 rfl rfl (by decide) (by decide) ⟨by omega, by omega⟩ (Nat.le_of_ble_eq_true rfl) (fun _ => ?_) (fun h => absurd h (Nat.lt_irrefl 0))
          refine or_bipush (v := nI 24) E rfl dL_input_56 ?_
          refine or_bipush (v := nI 8) E rfl dL_input_58 ?_
          refine or_iload E rfl dL_input_60 ?_
          refine or_iconst (v := nI 4) E rfl dL_input_62 ?_
          refine or_iremN E dL_input_63 (by omega) (by decide) (by decide) ?_
          refine or_imulN E dL_input_64 ?_
          refine or_isubN E dL_input_65 (by omega) ?_
          refine or_ishl E dL_input_66 ?_
          rw [nI_shl _ _ (by omega)]
          refine or_ior E dL_input_67 ?_
          have ec : t (20 * c + k) = tx t n (20 * c + 4 * (k / 4) + k % 4) := by rw [show 20 * c + 4 * (k / 4) + k % 4 = 20 * c + k by omega, tT _ (by omega)]
          rw [ec, wv_or hT _ _ (by omega)]
          refine ot_iast (j := k / 4) E dL_input_68 S9z rfl rfl (by omega) (by decide) ?_
          refine or_iincN (c := 1) E dL_input_69 rfl rfl (by decide) ?_
          refine or_goto 23 E dL_input_72 rfl ?_
          refine or_lv _ ?_ (ih2 (k + 1) (ow_u J2 zz (k / 4) (nI (wv (tx t n) (20 * c + 4 * (k / 4)) (k % 4 + 1)))) (by omega) (fun b hb => ?_) (fun j hj => ?_) (by omega))
          · rfl
          · funext i
            rw [ow_u_a _ _ _ _ hb]
            exact congrFun (hJ2 b hb) i
          · by_cases e : j = k / 4
            · subst e
              rw [ow_u_s, show min 4 (k + 1 - 4 * (k / 4)) = k % 4 + 1 by omega]
            · rw [ow_u_k _ _ _ _ e, hw j hj, show min 4 (k + 1 - 4 * j) = min 4 (k - 4 * j) by omega]
      refine or_lv _ ?_ (L23 21 0 (ow_nI J zz) (by decide) (fun b hb => ow_nI_o J hb) (fun j hj => ?_) (by decide))
      · rfl
      · rw [ow_nI_s, show min 4 (0 - 4 * j) = 0 by omega]
        rfl
  refine or_aload_n E rfl dL_input_0 ?_
  refine or_iconst (v := nI 0) E rfl dL_input_1 ?_
  refine or_fV1r (cA_truncate (Z := Z) h_x (by decide) (Int32.le_trans (by decide) hin.1)) E G F lk_120_7 dL_input_2 h_x.1 rfl rfl (by decide) (by decide) ⟨Nat.le_of_ble_eq_true rfl, Nat.le_of_ble_eq_true rfl⟩ (Nat.le_of_ble_eq_true rfl) (fun _ => ?_) (fun h => absurd h (Nat.lt_irrefl 0))
  refine or_pop E rfl dL_input_5 ?_
  refine or_iconst (v := nI 0) E rfl dL_input_6 ?_
  refine or_istore_n E dL_input_7 (by decide) ?_
  refine or_lv _ ?_ (L8 (n + 21) 0 _ z (Nat.le_refl _) (by decide) ?_ (by omega) (by omega))
  · rfl
  · unfold A_truncate
    simp only [lt]
    exact ⟨ow_u_s _ _ _ _, fun k hk => ow_u_k _ _ _ _ hk _, fun i hi => absurd hi (Nat.not_lt_zero _), fun r hr => absurd hr (Nat.not_lt_zero _), fun b h1 h2 => by funext k; exact ow_u_a _ _ _ _ h1 k⟩
