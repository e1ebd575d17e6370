theorem V_think {m : Nat} {I : ow_I} (hv : md_V (I (m + 1))) (h8 : 0 ≤ I (m + 1) 8) : md_V (M_think m I (m + 1)) := by
  simp only [M_think, lt_eq]
  split
  · have hr := V_row hv (I (m + 1) 11 + nI 1) (Or.inr (Or.inl rfl))
    split
    · exact hr
    · exact V_close hr (by rw [ow_u_k _ _ _ _ (by decide)]; exact h8)
  · exact V_nodNow hv h8 (M_thinker_rng hv (i_nlt (by assumption)))
theorem V_passOne {m : Nat} {I : ow_I} (hv : md_V (I (m + 1))) : md_V (M_passOne m I (m + 1)) := by
  have key : ∀ J : ow_I, md_V (J (m + 1)) → md_V ((if M_isOpenNow m J then if 0 ≤ J (m + 1) 8 then M_think m J else M_openFirst m J else J) (m + 1)) := by
    intro J hJ
    split
    · split
      · exact V_think hJ (by assumption)
      · exact V_openFirst hJ (by assumption)
    · exact hJ
  simp only [M_passOne, lt_eq]
  have hr := V_row hv (I (m + 1) 5 + nI 1) (Or.inl rfl)
  split
  · split
    · exact key _ hr
    · exact key _ (V_close hr (i_nlt (by assumption)))
  · exact key _ hr
theorem lk_11_150 : ow_lv RX11 150 yX11_countState cX11_countState 4 (some .int) 1 := ⟨ow_T_in 1925 (by decide +kernel) (by decide +kernel), ow_T_in 1927 (by decide +kernel) (by decide +kernel), ow_T_sel 91 (by decide +kernel) (by decide +kernel), ow_T_in 19 (by decide +kernel) (by decide +kernel), ow_T_in 1928 (by decide +kernel) (by decide +kernel), ⟨by decide +kernel, by decide +kernel, by decide +kernel⟩⟩
theorem lk_11_153 : ow_lv RX11 153 yX11_passOne cX11_passOne 1 none 0 := ⟨ow_T_in 1929 (by decide +kernel) (by decide +kernel), ow_T_in 1931 (by decide +kernel) (by decide +kernel), ow_T_sel 92 (by decide +kernel) (by decide +kernel), ow_T_in 19 (by decide +kernel) (by decide +kernel), ow_T_in 1932 (by decide +kernel) (by decide +kernel), ⟨by decide +kernel, by decide +kernel, by decide +kernel⟩⟩
theorem lk_11_156 : ow_lv RX11 156 yX11_isWaiting cX11_isWaiting 2 (some .boolean) 1 := ⟨ow_T_in 1889 (by decide +kernel) (by decide +kernel), ow_T_in 1891 (by decide +kernel) (by decide +kernel), ow_T_sel 83 (by decide +kernel) (by decide +kernel), ow_T_in 19 (by decide +kernel) (by decide +kernel), ow_T_in 1892 (by decide +kernel) (by decide +kernel), ⟨by decide +kernel, by decide +kernel, by decide +kernel⟩⟩
def M_passAll_L8 (m : Nat) (n2 : Nat) : Nat → ow_I → Int32 → Nat → Int32 × ow_I
  | 0, I, _, _ => (default, I)
  | n + 1, I, c, i => if n2 ≤ i then (M_countState m (nI 2) I - c, I) else lt (M_passOne m I) (fun (I1 : ow_I) => M_passAll_L8 m n2 n I1 c (i + 1))
def M_passAll (m : Nat) (n2 : Nat) (I : ow_I) : Int32 × ow_I :=
  M_passAll_L8 m n2 (n2 + 1) I (M_countState m (nI 2) I) 0
set_option maxRecDepth 100000 in
set_option maxHeartbeats 400000 in
theorem cM_passAll {S : Nat → Option ow_Sh} {I : ow_I} {V : Nat → Nat → Value} {z : Nat} {m : Nat} {n2 : Nat} (h_m : md_S S m) (hn : n2 < 2 ^ 31) (hv : md_V (I (m + 1))) : ow_Cf yX11_passAll cX11_passAll 4 (some .int) 7 [.ref m, .int (nI n2)] (S, I, V, z) (some (.int ((M_passAll m n2 I).1))) (S, (M_passAll m n2 I).2, V, z) := by
  refine ow_Cf.of rfl (Nat.le_of_ble_eq_true rfl) (fun X K E F hk => ?_)
  have E : ow_E X RX11 cX11_passAll 4 (ow_rm 7 0 0) := E
  refine or_lv [(0, .ref m), (1, .int (nI n2))] rfl ?_
  have L8 : ∀ (n : Nat) (I : ow_I) (c : Int32) (i : Nat) (hv : md_V (I (m + 1))) (hi : i ≤ n2) (hm : n2 - i < n) (hk : K (some (.int ((M_passAll_L8 m n2 n I c i).1))) (S, (M_passAll_L8 m n2 n I c i).2, V, z)), ow_W X 0 0 (S, I, V, z) 8 [(0, .ref m), (1, .int (nI n2)), (2, .int c), (3, .int (nI i))] [] := by
    intro n
    induction n with
    | zero => intro I c i hv hi hm; omega
    | succ n ih =>
      intro I c i hv hi hm hk
      dsimp only [M_passAll_L8] at hk
      refine or_iload_n E rfl dX11_passAll_8 ?_
      refine or_iload_n E rfl dX11_passAll_9 ?_
      refine or_icmp_geN 23 E dX11_passAll_10 rfl (by omega) (by omega) (fun q10 => ?_) (fun q10 => ?_)
      · replace hk := ite_p (P := fun r : Int32 × ow_I => K (some (.int ((r).1))) (S, (r).2, V, z)) q10 hk
        refine or_aload_n E rfl dX11_passAll_23 ?_
        refine or_iconst (v := nI 2) E rfl dX11_passAll_24 ?_
        refine or_cV1r (cM_countState  h_m hv.2.2.1.1 hv.2.2.1.2) E lk_11_150 dX11_passAll_25 h_m.1 rfl rfl (by decide) (by decide) ⟨Nat.le_refl _, Nat.le_refl _⟩ (Nat.le_of_ble_eq_true rfl) ?_
        refine or_iload_n E rfl dX11_passAll_28 ?_
        refine or_isub E dX11_passAll_29 ?_
        try dsimp only at hk
        exact or_iret E F dX11_passAll_30 (Nat.le_refl _) (Nat.le_refl _) hk
      · replace hk := ite_n (P := fun r : Int32 × ow_I => K (some (.int ((r).1))) (S, (r).2, V, z)) q10 hk
        refine or_aload_n E rfl dX11_passAll_13 ?_
        refine or_cV0v (cM_passOne  h_m hv) E lk_11_153 dX11_passAll_14 h_m.1 rfl rfl (by decide) (by decide) ⟨Nat.le_refl _, Nat.le_refl _⟩ (Nat.le_of_ble_eq_true rfl) ?_
        obtain ⟨I1, hI1⟩ : ∃ y_ : ow_I, y_ = M_passOne m I := ⟨_, rfl⟩
        replace hk := lt_k (P := fun r : Int32 × ow_I => K (some (.int ((r).1))) (S, (r).2, V, z)) hI1 hk
        refine or_nmI hI1 ?_
        refine or_iincN (c := 1) E dX11_passAll_17 rfl rfl (by decide) ?_
        refine or_goto 8 E dX11_passAll_20 rfl ?_
        refine or_lv _ ?_ (ih _ _ _ (by subst hI1; exact (V_passOne hv)) (by subst hI1; omega) (by omega) hk)
        rfl
  dsimp only [M_passAll] at hk
  refine or_aload_n E rfl dX11_passAll_0 ?_
  refine or_iconst (v := nI 2) E rfl dX11_passAll_1 ?_
  refine or_cV1r (cM_countState  h_m hv.2.2.1.1 hv.2.2.1.2) E lk_11_150 dX11_passAll_2 h_m.1 rfl rfl (by decide) (by decide) ⟨Nat.le_refl _, Nat.le_refl _⟩ (Nat.le_of_ble_eq_true rfl) ?_
  refine or_istore_n E dX11_passAll_5 (by decide) ?_
  refine or_iconst (v := nI 0) E rfl dX11_passAll_6 ?_
  refine or_istore_n E dX11_passAll_7 (by decide) ?_
  refine or_lv _ ?_ (L8 (n2 + 1) _ _ _ hv (by omega) (by omega) hk)
  rfl
def M_atLeastOne (v : Int32) (I : ow_I) : Int32 :=
  if nI 1 ≤ v then v else nI 1
set_option maxRecDepth 100000 in
set_option maxHeartbeats 400000 in
theorem cM_atLeastOne {S : Nat → Option ow_Sh} {I : ow_I} {V : Nat → Nat → Value} {z : Nat} {v : Int32}   : ow_Cf yX11_atLeastOne cX11_atLeastOne 1 (some .int) 0 [.int v] (S, I, V, z) (some (.int (M_atLeastOne v I))) (S, I, V, z) := by
  refine ow_Cf.of rfl (Nat.le_of_ble_eq_true rfl) (fun X K E F hk => ?_)
  have E : ow_E X RX11 cX11_atLeastOne 1 (ow_rm 0 0 0) := E
  refine or_lv [(0, .int v)] rfl ?_
  dsimp only [M_atLeastOne] at hk
  refine or_iload_n E rfl dX11_atLeastOne_0 ?_
  refine or_iconst (v := nI 1) E rfl dX11_atLeastOne_1 ?_
  refine or_icmp_ge 9 E dX11_atLeastOne_2 rfl (fun q2 => ?_) (fun q2 => ?_)
  · replace hk := ite_p (P := fun r : Int32 => K (some (.int (r))) (S, I, V, z)) q2 hk
    refine or_iload_n E rfl dX11_atLeastOne_9 ?_
    exact or_iret E F dX11_atLeastOne_10 (Nat.le_refl _) (Nat.le_refl _) hk
  · replace hk := ite_n (P := fun r : Int32 => K (some (.int (r))) (S, I, V, z)) q2 hk
    refine or_iconst (v := nI 1) E rfl dX11_atLeastOne_5 ?_
    refine or_goto 10 E dX11_atLeastOne_6 rfl ?_
    exact or_iret E F dX11_atLeastOne_10 (Nat.le_refl _) (Nat.le_refl _) hk
def M_isWaiting (m : Nat) (b : Nat) (I : ow_I) : Bool :=
  if M_ofBarrel m b 12 I = 0 then true else false
set_option maxRecDepth 100000 in
set_option maxHeartbeats 400000 in
theorem cM_isWaiting {S : Nat → Option ow_Sh} {I : ow_I} {V : Nat → Nat → Value} {z : Nat} {m : Nat} {b : Nat} (h_m : md_S S m) (hb : b < 20) : ow_Cf yX11_isWaiting cX11_isWaiting 2 (some .boolean) 1 [.ref m, .int (nI b)] (S, I, V, z) (some (.int (bi (M_isWaiting m b I)))) (S, I, V, z) := by
  refine ow_Cf.of rfl (Nat.le_of_ble_eq_true rfl) (fun X K E F hk => ?_)
  have E : ow_E X RX11 cX11_isWaiting 2 (ow_rm 1 0 0) := E
  refine or_lv [(0, .ref m), (1, .int (nI b))] rfl ?_
  dsimp only [M_isWaiting] at hk
  refine or_aload_n E rfl dX11_isWaiting_0 ?_
  refine or_iload_n E rfl dX11_isWaiting_1 ?_
  refine or_bipush (v := nI 12) E rfl dX11_isWaiting_2 ?_
  refine or_cV2r (cM_ofBarrel  h_m (by omega)) E lk_11_66 dX11_isWaiting_4 h_m.1 rfl rfl (by decide) (by decide) ⟨Nat.le_refl _, Nat.le_refl _⟩ (Nat.le_of_ble_eq_true rfl) ?_
  refine or_if_ne 14 E dX11_isWaiting_7 rfl (fun q7 => ?_) (fun q7 => ?_)
  · replace hk := ite_n (P := fun r : Bool => K (some (.int (bi (r)))) (S, I, V, z)) q7 hk
    refine or_iconst (v := nI 0) E rfl dX11_isWaiting_14 ?_
    exact or_zret E F dX11_isWaiting_15 (Nat.le_refl _) (Nat.le_refl _) (bi_nar false) hk
  · replace hk := ite_p (P := fun r : Bool => K (some (.int (bi (r)))) (S, I, V, z)) q7 hk
    refine or_iconst (v := nI 1) E rfl dX11_isWaiting_10 ?_
    refine or_goto 15 E dX11_isWaiting_11 rfl ?_
    exact or_zret E F dX11_isWaiting_15 (Nat.le_refl _) (Nat.le_refl _) (bi_nar true) hk
def M_canSplit (m : Nat) (b : Nat) (e : Nat) (I : ow_I) : Bool :=
  if M_isWaiting m b I then if M_ofBarrel m b 0 I ≤ nI e then false else if nI 20 ≤ I (m + 1) 7 then false else true else false
set_option maxRecDepth 100000 in
set_option maxHeartbeats 400000 in
theorem cM_canSplit {S : Nat → Option ow_Sh} {I : ow_I} {V : Nat → Nat → Value} {z : Nat} {m : Nat} {b : Nat} {e : Nat} (h_m : md_S S m) (hb : b < 20) : ow_Cf yX11_canSplit cX11_canSplit 3 (some .boolean) 2 [.ref m, .int (nI b), .int (nI e)] (S, I, V, z) (some (.int (bi (M_canSplit m b e I)))) (S, I, V, z) := by
  refine ow_Cf.of rfl (Nat.le_of_ble_eq_true rfl) (fun X K E F hk => ?_)
  have E : ow_E X RX11 cX11_canSplit 3 (ow_rm 2 0 0) := E
  refine or_lv [(0, .ref m), (1, .int (nI b)), (2, .int (nI e))] rfl ?_
  dsimp only [M_canSplit] at hk
  refine or_aload_n E rfl dX11_canSplit_0 ?_
  refine or_iload_n E rfl dX11_canSplit_1 ?_
  refine or_cV1r (cM_isWaiting  h_m (by omega)) E lk_11_156 dX11_canSplit_2 h_m.1 rfl rfl (by decide) (by decide) ⟨Nat.le_refl _, Nat.le_refl _⟩ (Nat.le_of_ble_eq_true rfl) ?_
  refine or_if_eqZ 34 E dX11_canSplit_5 rfl (fun q5 => ?_) (fun q5 => ?_)
  · replace hk := ite_n (P := fun r : Bool => K (some (.int (bi (r)))) (S, I, V, z)) (bz_neg q5) hk
    refine or_iconst (v := nI 0) E rfl dX11_canSplit_34 ?_
    exact or_zret E F dX11_canSplit_35 (Nat.le_refl _) (Nat.le_refl _) (bi_nar false) hk
  · replace hk := ite_p (P := fun r : Bool => K (some (.int (bi (r)))) (S, I, V, z)) q5 hk
    refine or_aload_n E rfl dX11_canSplit_8 ?_
    refine or_iload_n E rfl dX11_canSplit_9 ?_
    refine or_iconst (v := nI 0) E rfl dX11_canSplit_10 ?_
    refine or_cV2r (cM_ofBarrel  h_m (by omega)) E lk_11_66 dX11_canSplit_11 h_m.1 rfl rfl (by decide) (by decide) ⟨Nat.le_refl _, Nat.le_refl _⟩ (Nat.le_of_ble_eq_true rfl) ?_
    refine or_iload_n E rfl dX11_canSplit_14 ?_
    refine or_icmp_le 34 E dX11_canSplit_15 rfl (fun q15 => ?_) (fun q15 => ?_)
    · replace hk := ite_p (P := fun r : Bool => K (some (.int (bi (r)))) (S, I, V, z)) q15 hk
      refine or_iconst (v := nI 0) E rfl dX11_canSplit_34 ?_
      exact or_zret E F dX11_canSplit_35 (Nat.le_refl _) (Nat.le_refl _) (bi_nar false) hk
    · replace hk := ite_n (P := fun r : Bool => K (some (.int (bi (r)))) (S, I, V, z)) q15 hk
      refine or_aload_n E rfl dX11_canSplit_18 ?_
      refine ot_getC E fl_11_7 dX11_canSplit_19 h_m.1 rfl ?_
      refine or_bipush (v := nI 7) E rfl dX11_canSplit_22 ?_
      refine ot_iald (j := 7) E dX11_canSplit_24 h_m.2.1 rfl rfl (by omega) (Nat.le_of_ble_eq_true rfl) ?_
      refine or_bipush (v := nI 20) E rfl dX11_canSplit_25 ?_
      refine or_icmp_ge 34 E dX11_canSplit_27 rfl (fun q27 => ?_) (fun q27 => ?_)
      · replace hk := ite_p (P := fun r : Bool => K (some (.int (bi (r)))) (S, I, V, z)) q27 hk
        refine or_iconst (v := nI 0) E rfl dX11_canSplit_34 ?_
        exact or_zret E F dX11_canSplit_35 (Nat.le_refl _) (Nat.le_refl _) (bi_nar false) hk
      · replace hk := ite_n (P := fun r : Bool => K (some (.int (bi (r)))) (S, I, V, z)) q27 hk
        refine or_iconst (v := nI 1) E rfl dX11_canSplit_30 ?_
        refine or_goto 35 E dX11_canSplit_31 rfl ?_
        exact or_zret E F dX11_canSplit_35 (Nat.le_refl _) (Nat.le_refl _) (bi_nar true) hk
