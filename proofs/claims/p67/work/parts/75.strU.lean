theorem isw_b {a b : Int32} {L i : Nat} (ha : 0 ≤ a) (h5 : tn a ≤ 500) (hb : 0 ≤ b) (hb5 : tn b ≤ 500) (hL : L < 2 ^ 31) (e : a - b = nI L) (hi : i < L) : tn b + i < 500 := by
  rw [← nI_tn ha, ← nI_tn hb] at e
  have h := congrArg Int32.toInt e
  rw [nI_toInt hL, show (nI (tn a) - nI (tn b)).toInt = (tn a : Int) - tn b from pk_sub_toInt (by omega) (by omega)] at h
  omega
theorem lk_5_19 : ow_lv RX5 19 yJ0_length_8abf5 cJ0_length_8abf5 1 (some .int) 0 := ⟨ow_T_in 364 (by decide +kernel) (by decide +kernel), ow_T_in 365 (by decide +kernel) (by decide +kernel), ow_T_in 366 (by decide +kernel) (by decide +kernel), ow_T_in 14 (by decide +kernel) (by decide +kernel), ow_T_in 367 (by decide +kernel) (by decide +kernel), ⟨by decide +kernel, by decide +kernel, by decide +kernel⟩⟩
theorem lk_5_25 : ow_lv RX5 25 yJ0_charAt_5068e cJ0_charAt_5068e 2 (some .char) 1 := ⟨ow_T_in 373 (by decide +kernel) (by decide +kernel), ow_T_in 374 (by decide +kernel) (by decide +kernel), ow_T_in 375 (by decide +kernel) (by decide +kernel), ow_T_in 14 (by decide +kernel) (by decide +kernel), ow_T_in 376 (by decide +kernel) (by decide +kernel), ⟨by decide +kernel, by decide +kernel, by decide +kernel⟩⟩
def U_isWord_L28 (u : Nat) (w : Nat) : Nat → ow_I → Nat → Bool
  | 0, I, _ => false
  | n + 1, I, i => if gl_len w ≤ i then true else if I (u + 1) (tn (I u 3) + i) = nI (gl_ch w i) then U_isWord_L28 u w n I (i + 1) else false
def U_isWord (u : Nat) (w : Nat) (I : ow_I) : Bool :=
  if I u 2 = nI 1 then if I u 4 - (I u 3) = nI (gl_len w) then U_isWord_L28 u w (gl_len w + 1) I 0 else false else false
set_option maxRecDepth 100000 in
set_option maxHeartbeats 400000 in
theorem cU_isWord {Z : Nat → Nat} {S : Nat → Option ow_Sh} {I : ow_I} {V : Nat → Nat → Value} {z : Nat} {u : Nat} {w : Nat} (h_u : in_S S u) (h_w : st_S S w) (h3 : 0 ≤ I u 3) (h3b : tn (I u 3) ≤ 500) (h4 : 0 ≤ I u 4) (h4b : tn (I u 4) ≤ 500) : ow_Cx Z yX5_isWord cX5_isWord 3 (some .boolean) 4 0 0 [.ref u, .ref (Z w)] (S, I, V, z) (ox_s S V z 0 (some (.int (bi (U_isWord u w I)))) I) := by
  refine ow_Cx.off rfl (Nat.le_of_ble_eq_true rfl) (fun X K E G F hk => ?_)
  have E : ow_E X RX5 cX5_isWord 3 (ow_rm 4 0 0) := E
  refine or_lv [(0, .ref u), (1, .ref (Z w))] rfl ?_
  have L28 : ∀ (n : Nat) (I : ow_I) (i : Nat) (h3 : 0 ≤ I u 3) (h3b : tn (I u 3) ≤ 500) (h4 : 0 ≤ I u 4) (h4b : tn (I u 4) ≤ 500) (q21 : I u 4 - I u 3 = nI (gl_len w)) (hi : i ≤ gl_len w) (hm : gl_len w - i < n) (hk : ox_e K S V z 0 (some (.int (bi (U_isWord_L28 u w n I i)))) I), ow_W X 0 0 (S, I, V, z) 28 [(0, .ref u), (1, .ref (Z w)), (2, .int (nI i))] [] := by
    intro n
    induction n with
    | zero => intro I i h3 h3b h4 h4b q21 hi hm; omega
    | succ n ih =>
      intro I i h3 h3b h4 h4b q21 hi hm hk
      dsimp only [U_isWord_L28] at hk
      refine or_iload_n E rfl dX5_isWord_28 ?_
      refine or_aload_n E rfl dX5_isWord_29 ?_
      refine or_gV0r (cj0_length_8abf5 (Z := Z) (w := w) h_w ) E G F lk_5_19 dX5_isWord_30 (og_so (og_1 G h_w)) (by decide) (by decide) ⟨(Nat.le_of_ble_eq_true rfl), (Nat.le_of_ble_eq_true rfl)⟩ (Nat.le_of_ble_eq_true rfl) (fun _ => ?_) (fun h => absurd h (Nat.lt_irrefl 0))
      refine or_top (y := nI (gl_len w)) rfl ?_
      refine or_icmp_geN 63 E dX5_isWord_33 rfl (by have := gl_lb h_w; omega) (gl_lb h_w) (fun q33 => ?_) (fun q33 => ?_)
      · replace hk := ite_p (P := fun r : Bool => ox_e K S V z 0 (some (.int (bi (r)))) I) q33 hk
        refine or_iconst (v := nI 1) E rfl dX5_isWord_63 ?_
        exact or_xr E F (fun X' E' F' => or_zret E' F' dX5_isWord_64 (Nat.le_of_ble_eq_true rfl) (Nat.le_of_ble_eq_true rfl) (bi_nar true) (hk.1 rfl))
      · replace hk := ite_n (P := fun r : Bool => ox_e K S V z 0 (some (.int (bi (r)))) I) q33 hk
        refine or_aload_n E rfl dX5_isWord_36 ?_
        refine ot_getC E fl_5_9 dX5_isWord_37 h_u.1 rfl ?_
        refine or_aload_n E rfl dX5_isWord_40 ?_
        refine ot_getI E fl_5_36 dX5_isWord_41 h_u.1 rfl ?_
        refine or_top (nI_tn h3).symm ?_
        refine or_iload_n E rfl dX5_isWord_44 ?_
        refine or_iaddN E dX5_isWord_45 ?_
        refine ot_iald (j := tn (I u 3) + i) E dX5_isWord_46 h_u.2 rfl rfl (isw_b h4 h4b h3 h3b (gl_lb h_w) q21 (by omega)) (Nat.le_of_ble_eq_true rfl) ?_
        refine or_aload_n E rfl dX5_isWord_47 ?_
        refine or_iload_n E rfl dX5_isWord_48 ?_
        refine or_gV1r (cj0_charAt_5068e (Z := Z) (w := w) h_w (by omega)) E G F lk_5_25 dX5_isWord_49 (og_so (og_1 G h_w)) (by decide) (by decide) ⟨(Nat.le_of_ble_eq_true rfl), (Nat.le_of_ble_eq_true rfl)⟩ (Nat.le_of_ble_eq_true rfl) (fun _ => ?_) (fun h => absurd h (Nat.lt_irrefl 0))
        refine or_top (y := nI (gl_ch w i)) rfl ?_
        refine or_icmp_eq 57 E dX5_isWord_52 rfl (fun q52 => ?_) (fun q52 => ?_)
        · replace hk := ite_p (P := fun r : Bool => ox_e K S V z 0 (some (.int (bi (r)))) I) q52 hk
          refine or_iincN (c := 1) E dX5_isWord_57 rfl rfl (by decide) ?_
          refine or_goto 28 E dX5_isWord_60 rfl ?_
          refine or_lv _ ?_ (ih _ _ h3 h3b h4 h4b q21 (by omega) (by omega) hk)
          rfl
        · replace hk := ite_n (P := fun r : Bool => ox_e K S V z 0 (some (.int (bi (r)))) I) q52 hk
          refine or_iconst (v := nI 0) E rfl dX5_isWord_55 ?_
          exact or_xr E F (fun X' E' F' => or_zret E' F' dX5_isWord_56 (Nat.le_of_ble_eq_true rfl) (Nat.le_of_ble_eq_true rfl) (bi_nar false) (hk.1 rfl))
  try dsimp only [U_isWord] at hk
  refine or_aload_n E rfl dX5_isWord_0 ?_
  refine ot_getI E fl_5_46 dX5_isWord_1 h_u.1 rfl ?_
  refine or_iconst (v := nI 1) E rfl dX5_isWord_4 ?_
  refine or_icmp_ne 24 E dX5_isWord_5 rfl (fun q5 => ?_) (fun q5 => ?_)
  · replace hk := ite_n (P := fun r : Bool => ox_e K S V z 0 (some (.int (bi (r)))) I) q5 hk
    refine or_iconst (v := nI 0) E rfl dX5_isWord_24 ?_
    exact or_xr E F (fun X' E' F' => or_zret E' F' dX5_isWord_25 (Nat.le_of_ble_eq_true rfl) (Nat.le_of_ble_eq_true rfl) (bi_nar false) (hk.1 rfl))
  · replace hk := ite_p (P := fun r : Bool => ox_e K S V z 0 (some (.int (bi (r)))) I) q5 hk
    refine or_aload_n E rfl dX5_isWord_8 ?_
    refine ot_getI E fl_5_29 dX5_isWord_9 h_u.1 rfl ?_
    refine or_aload_n E rfl dX5_isWord_12 ?_
    refine ot_getI E fl_5_36 dX5_isWord_13 h_u.1 rfl ?_
    refine or_isub E dX5_isWord_16 ?_
    refine or_aload_n E rfl dX5_isWord_17 ?_
    refine or_gV0r (cj0_length_8abf5 (Z := Z) (w := w) h_w ) E G F lk_5_19 dX5_isWord_18 (og_so (og_1 G h_w)) (by decide) (by decide) ⟨(Nat.le_of_ble_eq_true rfl), (Nat.le_of_ble_eq_true rfl)⟩ (Nat.le_of_ble_eq_true rfl) (fun _ => ?_) (fun h => absurd h (Nat.lt_irrefl 0))
    refine or_top (y := nI (gl_len w)) rfl ?_
    refine or_icmp_eq 26 E dX5_isWord_21 rfl (fun q21 => ?_) (fun q21 => ?_)
    · replace hk := ite_p (P := fun r : Bool => ox_e K S V z 0 (some (.int (bi (r)))) I) q21 hk
      refine or_iconst (v := nI 0) E rfl dX5_isWord_26 ?_
      refine or_istore_n E dX5_isWord_27 (by decide) ?_
      refine or_lv _ ?_ (L28 (gl_len w + 1) _ _ h3 h3b h4 h4b q21 (Nat.zero_le _) (by omega) hk)
      rfl
    · replace hk := ite_n (P := fun r : Bool => ox_e K S V z 0 (some (.int (bi (r)))) I) q21 hk
      refine or_iconst (v := nI 0) E rfl dX5_isWord_24 ?_
      exact or_xr E F (fun X' E' F' => or_zret E' F' dX5_isWord_25 (Nat.le_of_ble_eq_true rfl) (Nat.le_of_ble_eq_true rfl) (bi_nar false) (hk.1 rfl))
def U_addSigns_L2 (u : Nat) (w : Nat) : Nat → ow_I → Nat → ow_I
  | 0, I, _ => I
  | n + 1, I, i => if gl_len w ≤ i then I else lt (U_addByte u (nI (gl_ch w i)) I) (fun (I1 : ow_I) => U_addSigns_L2 u w n I1 (i + 1))
def U_addSigns (u : Nat) (w : Nat) (I : ow_I) : ow_I :=
  U_addSigns_L2 u w (gl_len w + 1) I 0
set_option maxRecDepth 100000 in
set_option maxHeartbeats 400000 in
theorem cU_addSigns {Z : Nat → Nat} {S : Nat → Option ow_Sh} {I : ow_I} {V : Nat → Nat → Value} {z : Nat} {u : Nat} {w : Nat} (h_u : in_S S u) (h_w : st_S S w) (h1 : 0 ≤ I u 1) (h1b : tn (I u 1) ≤ 500) : ow_Cx Z yX5_addSigns cX5_addSigns 3 none 4 0 0 [.ref u, .ref (Z w)] (S, I, V, z) (ox_s S V z 0 none (U_addSigns u w I)) := by
  refine ow_Cx.off rfl (Nat.le_of_ble_eq_true rfl) (fun X K E G F hk => ?_)
  have E : ow_E X RX5 cX5_addSigns 3 (ow_rm 4 0 0) := E
  refine or_lv [(0, .ref u), (1, .ref (Z w))] rfl ?_
  have L2 : ∀ (n : Nat) (I : ow_I) (i : Nat) (h1 : 0 ≤ I u 1) (h1b : tn (I u 1) ≤ 500) (hi : i ≤ gl_len w) (hm : gl_len w - i < n) (hk : ox_e K S V z 0 none (U_addSigns_L2 u w n I i)), ow_W X 0 0 (S, I, V, z) 2 [(0, .ref u), (1, .ref (Z w)), (2, .int (nI i))] [] := by
    intro n
    induction n with
    | zero => intro I i h1 h1b hi hm; omega
    | succ n ih =>
      intro I i h1 h1b hi hm hk
      dsimp only [U_addSigns_L2] at hk
      refine or_iload_n E rfl dX5_addSigns_2 ?_
      refine or_aload_n E rfl dX5_addSigns_3 ?_
      refine or_gV0r (cj0_length_8abf5 (Z := Z) (w := w) h_w ) E G F lk_5_19 dX5_addSigns_4 (og_so (og_1 G h_w)) (by decide) (by decide) ⟨(Nat.le_of_ble_eq_true rfl), (Nat.le_of_ble_eq_true rfl)⟩ (Nat.le_of_ble_eq_true rfl) (fun _ => ?_) (fun h => absurd h (Nat.lt_irrefl 0))
      refine or_top (y := nI (gl_len w)) rfl ?_
      refine or_icmp_geN 25 E dX5_addSigns_7 rfl (by have := gl_lb h_w; omega) (gl_lb h_w) (fun q7 => ?_) (fun q7 => ?_)
      · replace hk := ite_p (P := fun r : ow_I => ox_e K S V z 0 none r) q7 hk
        exact or_xr E F (fun X' E' F' => or_vret E' F' dX5_addSigns_25 (Nat.le_of_ble_eq_true rfl) (Nat.le_of_ble_eq_true rfl) (hk.1 rfl))
      · replace hk := ite_n (P := fun r : ow_I => ox_e K S V z 0 none r) q7 hk
        refine or_aload_n E rfl dX5_addSigns_10 ?_
        refine or_aload_n E rfl dX5_addSigns_11 ?_
        refine or_iload_n E rfl dX5_addSigns_12 ?_
        refine or_gV1r (cj0_charAt_5068e (Z := Z) (w := w) h_w (by omega)) E G F lk_5_25 dX5_addSigns_13 (og_so (og_1 G h_w)) (by decide) (by decide) ⟨(Nat.le_of_ble_eq_true rfl), (Nat.le_of_ble_eq_true rfl)⟩ (Nat.le_of_ble_eq_true rfl) (fun _ => ?_) (fun h => absurd h (Nat.lt_irrefl 0))
        refine or_top (y := nI (gl_ch w i)) rfl ?_
        refine or_cV1v (cU_addByte  h_u h1 h1b) E lk_5_15 dX5_addSigns_16 h_u.1 rfl rfl (by decide) (by decide) ⟨(Nat.le_of_ble_eq_true rfl), (Nat.le_of_ble_eq_true rfl)⟩ (Nat.le_of_ble_eq_true rfl) ?_
        obtain ⟨I1, hI1⟩ : ∃ y_ : ow_I, y_ = U_addByte u (nI (gl_ch w i)) I := ⟨_, rfl⟩
        replace hk := lt_k (P := fun r : ow_I => ox_e K S V z 0 none r) hI1 hk
        refine or_nmI hI1 ?_
        refine or_iincN (c := 1) E dX5_addSigns_19 rfl rfl (by decide) ?_
        refine or_goto 2 E dX5_addSigns_22 rfl ?_
        refine or_lv _ ?_ (ih _ _ (by subst hI1; exact (ab_1 h1 h1b).1) (by subst hI1; exact (ab_1 h1 h1b).2) (by subst hI1; omega) (by omega) hk)
        rfl
  try dsimp only [U_addSigns] at hk
  refine or_iconst (v := nI 0) E rfl dX5_addSigns_0 ?_
  refine or_istore_n E dX5_addSigns_1 (by decide) ?_
  refine or_lv _ ?_ (L2 (gl_len w + 1) _ _ h1 h1b (Nat.zero_le _) (by omega) hk)
  rfl
