theorem lk_1_15 : ow_lv RX1 15 yX1_emptyOut cX1_emptyOut 1 none 0 := ⟨ow_T_in 515 (by decide +kernel) (by decide +kernel), ow_T_in 517 (by decide +kernel) (by decide +kernel), ow_T_sel 14 (by decide +kernel) (by decide +kernel), ow_T_in 5 (by decide +kernel) (by decide +kernel), ow_T_in 518 (by decide +kernel) (by decide +kernel), ⟨by decide +kernel, by decide +kernel, by decide +kernel⟩⟩
theorem lk_1_18 : ow_lv RX1 18 yX1_addEel cX1_addEel 2 none 1 := ⟨ow_T_in 519 (by decide +kernel) (by decide +kernel), ow_T_in 521 (by decide +kernel) (by decide +kernel), ow_T_sel 15 (by decide +kernel) (by decide +kernel), ow_T_in 5 (by decide +kernel) (by decide +kernel), ow_T_in 522 (by decide +kernel) (by decide +kernel), ⟨by decide +kernel, by decide +kernel, by decide +kernel⟩⟩
theorem lk_1_22 : ow_lv RX1 22 yX1_fill cX1_fill 5 none 3 := ⟨ow_T_in 1098 (by decide +kernel) (by decide +kernel), ow_T_in 512 (by decide +kernel) (by decide +kernel), ow_T_in 513 (by decide +kernel) (by decide +kernel), ow_T_in 5 (by decide +kernel) (by decide +kernel), ow_T_in 514 (by decide +kernel) (by decide +kernel), ⟨by decide +kernel, by decide +kernel, by decide +kernel⟩⟩
def B_fill_L7 (b : Nat) (f : Nat) (s : Nat) (e : Nat) : Nat → ow_I → Nat → ow_I
  | 0, I, _ => I
  | n + 1, I, i => if nI i < 0 then I else if e ≤ i then I else if 9 ≤ i then I else lt (B_addEel b (I f i) I) (fun (I2 : ow_I) => B_fill_L7 b f s e n I2 (i + 1))
def B_fill (b : Nat) (f : Nat) (s : Nat) (e : Nat) (I : ow_I) : ow_I :=
  lt (B_emptyOut b I) (fun (I1 : ow_I) => B_fill_L7 b f s e 10 I1 s)
set_option maxRecDepth 100000 in
set_option maxHeartbeats 400000 in
theorem cB_fill {S : Nat → Option ow_Sh} {I : ow_I} {V : Nat → Nat → Value} {z : Nat} {b : Nat} {f : Nat} {s : Nat} {e : Nat} (h_b : br_S S b) (h_f : i9_S S f) (hs : s ≤ 9) (hee : e < 2 ^ 31) : ow_Cf yX1_fill cX1_fill 5 none 2 [.ref b, .ref f, .int (nI s), .int (nI e)] (S, I, V, z) none (S, B_fill b f s e I, V, z) := by
  refine ow_Cf.of rfl (Nat.le_of_ble_eq_true rfl) (fun X K E F hk => ?_)
  have E : ow_E X RX1 cX1_fill 5 (ow_rm 2 0 0) := E
  refine or_lv [(0, .ref b), (1, .ref f), (2, .int (nI s)), (3, .int (nI e))] rfl ?_
  have L7 : ∀ (n : Nat) (I : ow_I) (i : Nat) (hi : i ≤ 9) (he : 0 ≤ I b 1) (heb : tn (I b 1) ≤ 9) (hm : 9 - i < n) (hk : K none (S, B_fill_L7 b f s e n I i, V, z)), ow_W X 0 0 (S, I, V, z) 7 [(0, .ref b), (1, .ref f), (3, .int (nI e)), (4, .int (nI i))] [] := by
    intro n
    induction n with
    | zero => intro I i hi he heb hm; omega
    | succ n ih =>
      intro I i hi he heb hm hk
      dsimp only [B_fill_L7] at hk
      refine or_iload E rfl dX1_fill_7 ?_
      refine or_if_lt 39 E dX1_fill_9 rfl (fun q9 => ?_) (fun q9 => ?_)
      · replace hk := ite_p (P := fun r : ow_I => K none (S, r, V, z)) q9 hk
        exact or_vret E F dX1_fill_39 (Nat.le_refl _) (Nat.le_refl _) hk
      · replace hk := ite_n (P := fun r : ow_I => K none (S, r, V, z)) q9 hk
        refine or_iload E rfl dX1_fill_12 ?_
        refine or_iload_n E rfl dX1_fill_14 ?_
        refine or_icmp_geN 39 E dX1_fill_15 rfl (by omega) (by omega) (fun q15 => ?_) (fun q15 => ?_)
        · replace hk := ite_p (P := fun r : ow_I => K none (S, r, V, z)) q15 hk
          exact or_vret E F dX1_fill_39 (Nat.le_refl _) (Nat.le_refl _) hk
        · replace hk := ite_n (P := fun r : ow_I => K none (S, r, V, z)) q15 hk
          refine or_iload E rfl dX1_fill_18 ?_
          refine or_aload_n E rfl dX1_fill_20 ?_
          refine or_alen E dX1_fill_21 h_f ?_
          refine or_icmp_geN 39 E dX1_fill_22 rfl (by omega) (by omega) (fun q22 => ?_) (fun q22 => ?_)
          · replace hk := ite_p (P := fun r : ow_I => K none (S, r, V, z)) q22 hk
            exact or_vret E F dX1_fill_39 (Nat.le_refl _) (Nat.le_refl _) hk
          · replace hk := ite_n (P := fun r : ow_I => K none (S, r, V, z)) q22 hk
            refine or_aload_n E rfl dX1_fill_25 ?_
            refine or_aload_n E rfl dX1_fill_26 ?_
            refine or_iload E rfl dX1_fill_27 ?_
            refine ot_iald (j := i) E dX1_fill_29 h_f rfl rfl (by omega) (Nat.le_of_ble_eq_true rfl) ?_
            refine or_cV1v (cB_addEel  h_b he heb) E lk_1_18 dX1_fill_30 h_b.1 rfl rfl (by decide) (by decide) ⟨Nat.le_refl _, Nat.le_refl _⟩ (Nat.le_of_ble_eq_true rfl) ?_
            obtain ⟨I2, hI2⟩ : ∃ y_ : ow_I, y_ = B_addEel b (I f i) I := ⟨_, rfl⟩
            replace hk := lt_k (P := fun r : ow_I => K none (S, r, V, z)) hI2 hk
            refine or_nmI hI2 ?_
            refine or_iincN (c := 1) E dX1_fill_33 rfl rfl (by decide) ?_
            refine or_goto 7 E dX1_fill_36 rfl ?_
            refine or_lv _ ?_ (ih _ _ (by subst hI2; omega) (by subst hI2; exact (bae_1 he heb).1) (by subst hI2; exact (bae_1 he heb).2) (by omega) hk)
            rfl
  dsimp only [B_fill] at hk
  refine or_aload_n E rfl dX1_fill_0 ?_
  refine or_cV0v (cB_emptyOut  h_b ) E lk_1_15 dX1_fill_1 h_b.1 rfl rfl (by decide) (by decide) ⟨Nat.le_refl _, Nat.le_refl _⟩ (Nat.le_of_ble_eq_true rfl) ?_
  obtain ⟨I1, hI1⟩ : ∃ y_ : ow_I, y_ = B_emptyOut b I := ⟨_, rfl⟩
  replace hk := lt_k (P := fun r : ow_I => K none (S, r, V, z)) hI1 hk
  refine or_nmI hI1 ?_
  refine or_iload_n E rfl dX1_fill_4 ?_
  refine or_istore E dX1_fill_5 (by decide) ?_
  refine or_lv _ ?_ (L7 10 _ _ hs (by subst hI1; rw [beo_1]; decide) (by subst hI1; rw [beo_1]; decide) (by omega) hk)
  rfl
def B_keepFirst (b : Nat) (k : Nat) (I : ow_I) : ow_I :=
  lt (B_fill b (b + 1) 0 k I) (fun (I1 : ow_I) => I1)
set_option maxRecDepth 100000 in
set_option maxHeartbeats 400000 in
theorem cB_keepFirst {S : Nat → Option ow_Sh} {I : ow_I} {V : Nat → Nat → Value} {z : Nat} {b : Nat} {k : Nat} (h_b : br_S S b) (hk2 : k < 2 ^ 31) : ow_Cf yX1_keepFirst cX1_keepFirst 2 none 3 [.ref b, .int (nI k)] (S, I, V, z) none (S, B_keepFirst b k I, V, z) := by
  refine ow_Cf.of rfl (Nat.le_of_ble_eq_true rfl) (fun X K E F hk => ?_)
  have E : ow_E X RX1 cX1_keepFirst 2 (ow_rm 3 0 0) := E
  refine or_lv [(0, .ref b), (1, .int (nI k))] rfl ?_
  dsimp only [B_keepFirst] at hk
  refine or_aload_n E rfl dX1_keepFirst_0 ?_
  refine or_aload_n E rfl dX1_keepFirst_1 ?_
  refine ot_getC E fl_1_9 dX1_keepFirst_2 h_b.1 rfl ?_
  refine or_iconst (v := nI 0) E rfl dX1_keepFirst_5 ?_
  refine or_iload_n E rfl dX1_keepFirst_6 ?_
  refine or_cV3v (cB_fill  h_b h_b.2 (by decide) hk2) E lk_1_22 dX1_keepFirst_7 h_b.1 rfl rfl (by decide) (by decide) ⟨Nat.le_refl _, Nat.le_refl _⟩ (Nat.le_of_ble_eq_true rfl) ?_
  obtain ⟨I1, hI1⟩ : ∃ y_ : ow_I, y_ = B_fill b (b + 1) 0 k I := ⟨_, rfl⟩
  replace hk := lt_k (P := fun r : ow_I => K none (S, r, V, z)) hI1 hk
  refine or_nmI hI1 ?_
  exact or_vret E F dX1_keepFirst_10 (Nat.le_refl _) (Nat.le_refl _) hk
