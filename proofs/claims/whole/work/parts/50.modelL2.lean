def M_nod (m : Nat) (b : Int32) (I : ow_I) : Int32 × ow_I :=
  lt (M_lacksBuyer m b I) (fun (r1 : Bool × ow_I) => if r1.1 then (nI 0, r1.2) else if M_reasonAgainst m (tn b) r1.2 ≤ 0 then lt (M_keep m 0 r1.2) (fun (I2 : ow_I) => lt (M_nodNow m (tn b) I2) (fun (r3 : Int32 × ow_I) => (r3.1, r3.2))) else lt (ow_u r1.2 m 18 (nI 2)) (fun (I4 : ow_I) => (nI 0, I4)))
set_option maxRecDepth 100000 in
set_option maxHeartbeats 400000 in
theorem cM_nod {S : Nat → Option ow_Sh} {I : ow_I} {V : Nat → Nat → Value} {z : Nat} {m : Nat} {b : Int32} (h_m : md_S S m) (hv : md_V (I (m + 1))) (ho : 0 ≤ I m 1) (hob : tn (I m 1) < 8) (hk2 : 0 ≤ I m 2) (hkb : tn (I m 2) ≤ 8) : ow_Cf yX11_nod cX11_nod 2 (some .int) 3 [.ref m, .int b] (S, I, V, z) (some (.int ((M_nod m b I).1))) (S, (M_nod m b I).2, V, z) := by
  refine ow_Cf.of rfl (Nat.le_of_ble_eq_true rfl) (fun X K E F hk => ?_)
  have E : ow_E X RX11 cX11_nod 2 (ow_rm 3 0 0) := E
  refine or_lv [(0, .ref m), (1, .int b)] rfl ?_
  dsimp only [M_nod] at hk
  refine or_aload_n E rfl dX11_nod_0 ?_
  refine or_iload_n E rfl dX11_nod_1 ?_
  refine or_cV1r (cM_lacksBuyer  h_m ) E lk_11_305 dX11_nod_2 h_m.1 rfl rfl (by decide) (by decide) ⟨Nat.le_refl _, Nat.le_refl _⟩ (Nat.le_of_ble_eq_true rfl) ?_
  obtain ⟨r1, hr1⟩ : ∃ y_ : Bool × ow_I, y_ = M_lacksBuyer m b I := ⟨_, rfl⟩
  replace hk := lt_k (P := fun r : Int32 × ow_I => K (some (.int ((r).1))) (S, (r).2, V, z)) hr1 hk
  refine or_nmZ hr1 ?_
  refine or_if_neZ 29 E dX11_nod_5 rfl (fun q5 => ?_) (fun q5 => ?_)
  · replace hk := ite_p (P := fun r : Int32 × ow_I => K (some (.int ((r).1))) (S, (r).2, V, z)) q5 hk
    refine or_iconst (v := nI 0) E rfl dX11_nod_29 ?_
    try dsimp only at hk
    exact or_iret E F dX11_nod_30 (Nat.le_refl _) (Nat.le_refl _) hk
  · replace hk := ite_n (P := fun r : Int32 × ow_I => K (some (.int ((r).1))) (S, (r).2, V, z)) (bz_neg q5) hk
    refine or_aload_n E rfl dX11_nod_8 ?_
    refine or_aload_n E rfl dX11_nod_9 ?_
    refine or_iload_n E rfl dX11_nod_10 ?_
    refine or_top (nI_tn (by subst hr1; exact (lb_1 hv q5).1)).symm ?_
    refine or_cV1r (cM_reasonAgainst  h_m (by subst hr1; have h := (lb_1 hv q5).2; have := hv.2.1; omega) (by subst hr1; rw [lb_A]; exact hv.1) (by subst hr1; rw [lb_A]; exact mdV_8' hv)) E lk_11_116 dX11_nod_11 h_m.1 rfl rfl (by decide) (by decide) ⟨Nat.le_refl _, Nat.le_refl _⟩ (Nat.le_of_ble_eq_true rfl) ?_
    refine or_if_le 21 E dX11_nod_14 rfl (fun q14 => ?_) (fun q14 => ?_)
    · replace hk := ite_p (P := fun r : Int32 × ow_I => K (some (.int ((r).1))) (S, (r).2, V, z)) q14 hk
      refine or_iconst (v := nI 0) E rfl dX11_nod_21 ?_
      refine or_iconst (v := nI 2) E rfl dX11_nod_22 ?_
      refine or_cV2r (cM_thrF h_m) E lk_11_166 dX11_nod_23 h_m.1 rfl rfl (by decide) (by decide) ⟨Nat.le_refl _, Nat.le_refl _⟩ (Nat.le_of_ble_eq_true rfl) ?_
      refine or_if_eqZ 31 E dX11_nod_26 rfl (fun q26 => ?_) (fun q26 => absurd q26 (by decide))
      refine or_aload_n E rfl dX11_nod_31 ?_
      refine or_iconst (v := nI 0) E rfl dX11_nod_32 ?_
      refine or_cV1v (cM_keep  h_m (by decide) (by subst hr1; rw [fr_lb (by decide)]; exact ho) (by subst hr1; rw [fr_lb (by decide)]; exact hob) (by subst hr1; rw [fr_lb (by decide)]; exact hk2) (by subst hr1; rw [fr_lb (by decide)]; exact hkb)) E lk_11_253 dX11_nod_33 h_m.1 rfl rfl (by decide) (by decide) ⟨Nat.le_refl _, Nat.le_refl _⟩ (Nat.le_of_ble_eq_true rfl) ?_
      obtain ⟨I2, hI2⟩ : ∃ y_ : ow_I, y_ = M_keep m 0 r1.2 := ⟨_, rfl⟩
      replace hk := lt_k (P := fun r : Int32 × ow_I => K (some (.int ((r).1))) (S, (r).2, V, z)) hI2 hk
      refine or_nmI hI2 ?_
      refine or_aload_n E rfl dX11_nod_36 ?_
      refine or_iload_n E rfl dX11_nod_37 ?_
      refine or_top (nI_tn (by subst hI2 hr1; exact (lb_1 hv q5).1)).symm ?_
      refine or_cV1r (cM_nodNow  h_m (by subst hI2 hr1; have h := (lb_1 hv q5).2; have := hv.2.1; omega) (by subst hI2 hr1; exact (nod_h8 (by rw [fr_lb (by decide)]; exact ho) (by rw [fr_lb (by decide)]; exact hk2) (by rw [lb_A]; exact hv) q14))) E lk_11_135 dX11_nod_38 h_m.1 rfl rfl (by decide) (by decide) ⟨Nat.le_refl _, Nat.le_refl _⟩ (Nat.le_of_ble_eq_true rfl) ?_
      obtain ⟨r3, hr3⟩ : ∃ y_ : Int32 × ow_I, y_ = M_nodNow m (tn b) I2 := ⟨_, rfl⟩
      replace hk := lt_k (P := fun r : Int32 × ow_I => K (some (.int ((r).1))) (S, (r).2, V, z)) hr3 hk
      refine or_nmJ hr3 ?_
      try dsimp only at hk
      exact or_iret E F dX11_nod_41 (Nat.le_refl _) (Nat.le_refl _) hk
    · replace hk := ite_n (P := fun r : Int32 × ow_I => K (some (.int ((r).1))) (S, (r).2, V, z)) q14 hk
      refine or_iconst (v := nI 1) E rfl dX11_nod_17 ?_
      refine or_goto 22 E dX11_nod_18 rfl ?_
      refine or_iconst (v := nI 2) E rfl dX11_nod_22 ?_
      refine or_cV2r (cM_thrT h_m) E lk_11_166 dX11_nod_23 h_m.1 rfl rfl (by decide) (by decide) ⟨Nat.le_refl _, Nat.le_refl _⟩ (Nat.le_of_ble_eq_true rfl) ?_
      obtain ⟨I4, hI4⟩ : ∃ y_ : ow_I, y_ = ow_u r1.2 m 18 (nI 2) := ⟨_, rfl⟩
      replace hk := lt_k (P := fun r : Int32 × ow_I => K (some (.int ((r).1))) (S, (r).2, V, z)) hI4 hk
      refine or_nmI hI4 ?_
      refine or_if_eqZ 31 E dX11_nod_26 rfl (fun q26 => absurd q26 (by decide)) (fun q26 => ?_)
      refine or_iconst (v := nI 0) E rfl dX11_nod_29 ?_
      try dsimp only at hk
      exact or_iret E F dX11_nod_30 (Nat.le_refl _) (Nat.le_refl _) hk
def M_passMinutes (m : Nat) (n2 : Int32) (I : ow_I) : Int32 × ow_I :=
  lt (ow_u I m 18 (nI 0)) (fun (I1 : ow_I) => if M_in n2 (nI 1) (nI 200) I1 then lt (M_keep m 0 I1) (fun (I2 : ow_I) => lt (M_passAll m (tn n2) I2) (fun (r3 : Int32 × ow_I) => (r3.1, r3.2))) else lt (ow_u I1 m 18 (nI 1)) (fun (I4 : ow_I) => (nI 0, I4)))
set_option maxRecDepth 100000 in
set_option maxHeartbeats 400000 in
theorem cM_passMinutes {S : Nat → Option ow_Sh} {I : ow_I} {V : Nat → Nat → Value} {z : Nat} {m : Nat} {n2 : Int32} (h_m : md_S S m) (hv : md_V (I (m + 1))) (ho : 0 ≤ I m 1) (hob : tn (I m 1) < 8) (hk2 : 0 ≤ I m 2) (hkb : tn (I m 2) ≤ 8) : ow_Cf yX11_passMinutes cX11_passMinutes 2 (some .int) 8 [.ref m, .int n2] (S, I, V, z) (some (.int ((M_passMinutes m n2 I).1))) (S, (M_passMinutes m n2 I).2, V, z) := by
  refine ow_Cf.of rfl (Nat.le_of_ble_eq_true rfl) (fun X K E F hk => ?_)
  have E : ow_E X RX11 cX11_passMinutes 2 (ow_rm 8 0 0) := E
  refine or_lv [(0, .ref m), (1, .int n2)] rfl ?_
  dsimp only [M_passMinutes] at hk
  refine or_aload_n E rfl dX11_passMinutes_0 ?_
  refine or_iconst (v := nI 0) E rfl dX11_passMinutes_1 ?_
  refine ot_putI E fl_11_54 fw_11_18 dX11_passMinutes_2 h_m.1 rfl ?_
  obtain ⟨I1, hI1⟩ : ∃ y_ : ow_I, y_ = ow_u I m 18 (nI 0) := ⟨_, rfl⟩
  replace hk := lt_k (P := fun r : Int32 × ow_I => K (some (.int ((r).1))) (S, (r).2, V, z)) hI1 hk
  refine or_nmI hI1 ?_
  refine or_aload_n E rfl dX11_passMinutes_5 ?_
  refine or_iload_n E rfl dX11_passMinutes_6 ?_
  refine or_iconst (v := nI 1) E rfl dX11_passMinutes_7 ?_
  refine or_sipush (v := nI 200) E rfl dX11_passMinutes_8 ?_
  refine or_cS3r (cM_in   ) E lk_11_173 dX11_passMinutes_11 (by decide) (by decide) ⟨Nat.le_refl _, Nat.le_refl _⟩ (Nat.le_of_ble_eq_true rfl) ?_
  refine or_if_neZ 21 E dX11_passMinutes_14 rfl (fun q14 => ?_) (fun q14 => ?_)
  · replace hk := ite_p (P := fun r : Int32 × ow_I => K (some (.int ((r).1))) (S, (r).2, V, z)) q14 hk
    refine or_iconst (v := nI 0) E rfl dX11_passMinutes_21 ?_
    refine or_iconst (v := nI 1) E rfl dX11_passMinutes_22 ?_
    refine or_cV2r (cM_thrF h_m) E lk_11_166 dX11_passMinutes_23 h_m.1 rfl rfl (by decide) (by decide) ⟨Nat.le_refl _, Nat.le_refl _⟩ (Nat.le_of_ble_eq_true rfl) ?_
    refine or_if_eqZ 31 E dX11_passMinutes_26 rfl (fun q26 => ?_) (fun q26 => absurd q26 (by decide))
    refine or_aload_n E rfl dX11_passMinutes_31 ?_
    refine or_iconst (v := nI 0) E rfl dX11_passMinutes_32 ?_
    refine or_cV1v (cM_keep  h_m (by decide) (by subst hI1; rw [ow_u_k _ _ _ _ (by decide)]; exact ho) (by subst hI1; rw [ow_u_k _ _ _ _ (by decide)]; exact hob) (by subst hI1; rw [ow_u_k _ _ _ _ (by decide)]; exact hk2) (by subst hI1; rw [ow_u_k _ _ _ _ (by decide)]; exact hkb)) E lk_11_253 dX11_passMinutes_33 h_m.1 rfl rfl (by decide) (by decide) ⟨Nat.le_refl _, Nat.le_refl _⟩ (Nat.le_of_ble_eq_true rfl) ?_
    obtain ⟨I2, hI2⟩ : ∃ y_ : ow_I, y_ = M_keep m 0 I1 := ⟨_, rfl⟩
    replace hk := lt_k (P := fun r : Int32 × ow_I => K (some (.int ((r).1))) (S, (r).2, V, z)) hI2 hk
    refine or_nmI hI2 ?_
    refine or_aload_n E rfl dX11_passMinutes_36 ?_
    refine or_iload_n E rfl dX11_passMinutes_37 ?_
    refine or_top (nI_tn (by subst hI2 hI1; exact (i32_le (a := 1) (b := 200) (by decide) (by decide) (in_rng q14).1 (in_rng q14).2).1)).symm ?_
    refine or_cV1r (cM_passAll  h_m (by subst hI2 hI1; have := (i32_le (a := 1) (b := 200) (by decide) (by decide) (in_rng q14).1 (in_rng q14).2).2.2; omega) (by subst hI2 hI1; exact (V_keep (by rw [u_A]; exact hv) (by rw [ow_u_k _ _ _ _ (by decide)]; exact ho) (by rw [ow_u_k _ _ _ _ (by decide)]; exact hk2) (Or.inl rfl)))) E lk_11_296 dX11_passMinutes_38 h_m.1 rfl rfl (by decide) (by decide) ⟨Nat.le_refl _, Nat.le_refl _⟩ (Nat.le_of_ble_eq_true rfl) ?_
    obtain ⟨r3, hr3⟩ : ∃ y_ : Int32 × ow_I, y_ = M_passAll m (tn n2) I2 := ⟨_, rfl⟩
    replace hk := lt_k (P := fun r : Int32 × ow_I => K (some (.int ((r).1))) (S, (r).2, V, z)) hr3 hk
    refine or_nmJ hr3 ?_
    try dsimp only at hk
    exact or_iret E F dX11_passMinutes_41 (Nat.le_refl _) (Nat.le_refl _) hk
  · replace hk := ite_n (P := fun r : Int32 × ow_I => K (some (.int ((r).1))) (S, (r).2, V, z)) (bz_neg q14) hk
    refine or_iconst (v := nI 1) E rfl dX11_passMinutes_17 ?_
    refine or_goto 22 E dX11_passMinutes_18 rfl ?_
    refine or_iconst (v := nI 1) E rfl dX11_passMinutes_22 ?_
    refine or_cV2r (cM_thrT h_m) E lk_11_166 dX11_passMinutes_23 h_m.1 rfl rfl (by decide) (by decide) ⟨Nat.le_refl _, Nat.le_refl _⟩ (Nat.le_of_ble_eq_true rfl) ?_
    obtain ⟨I4, hI4⟩ : ∃ y_ : ow_I, y_ = ow_u I1 m 18 (nI 1) := ⟨_, rfl⟩
    replace hk := lt_k (P := fun r : Int32 × ow_I => K (some (.int ((r).1))) (S, (r).2, V, z)) hI4 hk
    refine or_nmI hI4 ?_
    refine or_if_eqZ 31 E dX11_passMinutes_26 rfl (fun q26 => absurd q26 (by decide)) (fun q26 => ?_)
    refine or_iconst (v := nI 0) E rfl dX11_passMinutes_29 ?_
    try dsimp only at hk
    exact or_iret E F dX11_passMinutes_30 (Nat.le_refl _) (Nat.le_refl _) hk
def M_addBarrel_L95 (m : Nat) (r : Int32) (e : Int32) (x : Int32) : Nat → ow_I → Nat → Nat → Nat × ow_I
  | 0, I, _, _ => (default, I)
  | n + 1, I, b, i => if tn e ≤ i then (b, I) else lt (M_addEel m b x I) (fun (I6 : ow_I) => M_addBarrel_L95 m r e x n I6 b (i + 1))
def M_addBarrel (m : Nat) (r : Int32) (e : Int32) (x : Int32) (I : ow_I) : Nat × ow_I :=
  lt (ow_u I m 18 (nI 0)) (fun (I1 : ow_I) => if M_in r (nI 1) (nI 999) I1 then if M_in e (nI 1) (nI 9) I1 then if M_in x (nI 10) (nI 150) I1 then if I1 (m + 1) 7 = nI 20 then lt (ow_u I1 m 18 (nI 2)) (fun (I7 : ow_I) => (0, I7)) else lt (M_keep m 0 I1) (fun (I4 : ow_I) => lt (M_newBarrel m r I4) (fun (r5 : Nat × ow_I) => M_addBarrel_L95 m r e x 10 r5.2 r5.1 0)) else lt (ow_u I1 m 18 (nI 1)) (fun (I8 : ow_I) => (0, I8)) else lt (ow_u I1 m 18 (nI 1)) (fun (I3 : ow_I) => (0, I3)) else lt (ow_u I1 m 18 (nI 1)) (fun (I2 : ow_I) => (0, I2)))
set_option maxRecDepth 100000 in
set_option maxHeartbeats 400000 in
theorem cM_addBarrel {S : Nat → Option ow_Sh} {I : ow_I} {V : Nat → Nat → Value} {z : Nat} {m : Nat} {r : Int32} {e : Int32} {x : Int32} (h_m : md_S S m) (hv : md_V (I (m + 1))) (ho : 0 ≤ I m 1) (hob : tn (I m 1) < 8) (hk2 : 0 ≤ I m 2) (hkb : tn (I m 2) ≤ 8) : ow_Cf yX11_addBarrel cX11_addBarrel 6 (some .int) 3 [.ref m, .int r, .int e, .int x] (S, I, V, z) (some (.int (nI ((M_addBarrel m r e x I).1)))) (S, (M_addBarrel m r e x I).2, V, z) := by
  refine ow_Cf.of rfl (Nat.le_of_ble_eq_true rfl) (fun X K E F hk => ?_)
  have E : ow_E X RX11 cX11_addBarrel 6 (ow_rm 3 0 0) := E
  refine or_lv [(0, .ref m), (1, .int r), (2, .int e), (3, .int x)] rfl ?_
  have L95 : ∀ (n : Nat) (I : ow_I) (b : Nat) (i : Nat) (hb : b < 20) (hE : 0 ≤ e ∧ tn e ≤ 9) (hc : I (m + 1) (66 + 15 * b) = nI i) (hi : i ≤ 9) (hm : 9 - i < n) (hk : K (some (.int (nI ((M_addBarrel_L95 m r e x n I b i).1)))) (S, (M_addBarrel_L95 m r e x n I b i).2, V, z)), ow_W X 0 0 (S, I, V, z) 95 [(0, .ref m), (2, .int e), (3, .int x), (4, .int (nI b)), (5, .int (nI i))] [] := by
    intro n
    induction n with
    | zero => intro I b i hb hE hc hi hm; omega
    | succ n ih =>
      intro I b i hb hE hc hi hm hk
      dsimp only [M_addBarrel_L95] at hk
      refine or_iload E rfl dX11_addBarrel_95 ?_
      refine or_iload_n E rfl dX11_addBarrel_97 ?_
      refine or_top (nI_tn hE.1).symm ?_
      refine or_icmp_geN 114 E dX11_addBarrel_98 rfl (by omega) (by omega) (fun q98 => ?_) (fun q98 => ?_)
      · replace hk := ite_p (P := fun r : Nat × ow_I => K (some (.int (nI ((r).1)))) (S, (r).2, V, z)) q98 hk
        refine or_iload E rfl dX11_addBarrel_114 ?_
        try dsimp only at hk
        exact or_iret E F dX11_addBarrel_116 (Nat.le_refl _) (Nat.le_refl _) hk
      · replace hk := ite_n (P := fun r : Nat × ow_I => K (some (.int (nI ((r).1)))) (S, (r).2, V, z)) q98 hk
        refine or_aload_n E rfl dX11_addBarrel_101 ?_
        refine or_iload E rfl dX11_addBarrel_102 ?_
        refine or_iload_n E rfl dX11_addBarrel_104 ?_
        refine or_cV2v (cM_addEel  h_m hb (by show 0 ≤ I (m + 1) (66 + 15 * b); rw [hc]; exact nI_ge0 (by omega)) (by show tn (I (m + 1) (66 + 15 * b)) < 9; rw [hc, tn_nI (by omega)]; omega)) E lk_11_50 dX11_addBarrel_105 h_m.1 rfl rfl (by decide) (by decide) ⟨Nat.le_refl _, Nat.le_refl _⟩ (Nat.le_of_ble_eq_true rfl) ?_
        obtain ⟨I6, hI6⟩ : ∃ y_ : ow_I, y_ = M_addEel m b x I := ⟨_, rfl⟩
        replace hk := lt_k (P := fun r : Nat × ow_I => K (some (.int (nI ((r).1)))) (S, (r).2, V, z)) hI6 hk
        refine or_nmI hI6 ?_
        refine or_iincN (c := 1) E dX11_addBarrel_108 rfl rfl (by decide) ?_
        refine or_goto 95 E dX11_addBarrel_111 rfl ?_
        refine or_lv _ ?_ (ih _ _ _ (by subst hI6; exact hb) (by subst hI6; exact hE) (by subst hI6; exact (ae_0 hc (by omega))) (by subst hI6; omega) (by omega) hk)
        rfl
  dsimp only [M_addBarrel] at hk
  refine or_aload_n E rfl dX11_addBarrel_0 ?_
  refine or_iconst (v := nI 0) E rfl dX11_addBarrel_1 ?_
  refine ot_putI E fl_11_54 fw_11_18 dX11_addBarrel_2 h_m.1 rfl ?_
  obtain ⟨I1, hI1⟩ : ∃ y_ : ow_I, y_ = ow_u I m 18 (nI 0) := ⟨_, rfl⟩
  replace hk := lt_k (P := fun r : Nat × ow_I => K (some (.int (nI ((r).1)))) (S, (r).2, V, z)) hI1 hk
  refine or_nmI hI1 ?_
  refine or_aload_n E rfl dX11_addBarrel_5 ?_
  refine or_iload_n E rfl dX11_addBarrel_6 ?_
  refine or_iconst (v := nI 1) E rfl dX11_addBarrel_7 ?_
  refine or_sipush (v := nI 999) E rfl dX11_addBarrel_8 ?_
  refine or_cS3r (cM_in   ) E lk_11_173 dX11_addBarrel_11 (by decide) (by decide) ⟨Nat.le_refl _, Nat.le_refl _⟩ (Nat.le_of_ble_eq_true rfl) ?_
  refine or_if_eqZ 39 E dX11_addBarrel_14 rfl (fun q14 => ?_) (fun q14 => ?_)
  · replace hk := ite_n (P := fun r : Nat × ow_I => K (some (.int (nI ((r).1)))) (S, (r).2, V, z)) (bz_neg q14) hk
    refine or_iconst (v := nI 1) E rfl dX11_addBarrel_39 ?_
    refine or_goto 44 E dX11_addBarrel_40 rfl ?_
    refine or_iconst (v := nI 1) E rfl dX11_addBarrel_44 ?_
    refine or_cV2r (cM_thrT h_m) E lk_11_166 dX11_addBarrel_45 h_m.1 rfl rfl (by decide) (by decide) ⟨Nat.le_refl _, Nat.le_refl _⟩ (Nat.le_of_ble_eq_true rfl) ?_
    obtain ⟨I2, hI2⟩ : ∃ y_ : ow_I, y_ = ow_u I1 m 18 (nI 1) := ⟨_, rfl⟩
    replace hk := lt_k (P := fun r : Nat × ow_I => K (some (.int (nI ((r).1)))) (S, (r).2, V, z)) hI2 hk
    refine or_nmI hI2 ?_
    refine or_if_eqZ 53 E dX11_addBarrel_48 rfl (fun q48 => absurd q48 (by decide)) (fun q48 => ?_)
    refine or_iconst (v := nI 0) E rfl dX11_addBarrel_51 ?_
    try dsimp only at hk
    exact or_iret E F dX11_addBarrel_52 (Nat.le_refl _) (Nat.le_refl _) hk
  · replace hk := ite_p (P := fun r : Nat × ow_I => K (some (.int (nI ((r).1)))) (S, (r).2, V, z)) q14 hk
    refine or_iload_n E rfl dX11_addBarrel_17 ?_
    refine or_iconst (v := nI 1) E rfl dX11_addBarrel_18 ?_
    refine or_bipush (v := nI 9) E rfl dX11_addBarrel_19 ?_
    refine or_cS3r (cM_in   ) E lk_11_173 dX11_addBarrel_21 (by decide) (by decide) ⟨Nat.le_refl _, Nat.le_refl _⟩ (Nat.le_of_ble_eq_true rfl) ?_
    refine or_if_eqZ 39 E dX11_addBarrel_24 rfl (fun q24 => ?_) (fun q24 => ?_)
    · replace hk := ite_n (P := fun r : Nat × ow_I => K (some (.int (nI ((r).1)))) (S, (r).2, V, z)) (bz_neg q24) hk
      refine or_iconst (v := nI 1) E rfl dX11_addBarrel_39 ?_
      refine or_goto 44 E dX11_addBarrel_40 rfl ?_
      refine or_iconst (v := nI 1) E rfl dX11_addBarrel_44 ?_
      refine or_cV2r (cM_thrT h_m) E lk_11_166 dX11_addBarrel_45 h_m.1 rfl rfl (by decide) (by decide) ⟨Nat.le_refl _, Nat.le_refl _⟩ (Nat.le_of_ble_eq_true rfl) ?_
      obtain ⟨I3, hI3⟩ : ∃ y_ : ow_I, y_ = ow_u I1 m 18 (nI 1) := ⟨_, rfl⟩
      replace hk := lt_k (P := fun r : Nat × ow_I => K (some (.int (nI ((r).1)))) (S, (r).2, V, z)) hI3 hk
      refine or_nmI hI3 ?_
      refine or_if_eqZ 53 E dX11_addBarrel_48 rfl (fun q48 => absurd q48 (by decide)) (fun q48 => ?_)
      refine or_iconst (v := nI 0) E rfl dX11_addBarrel_51 ?_
      try dsimp only at hk
      exact or_iret E F dX11_addBarrel_52 (Nat.le_refl _) (Nat.le_refl _) hk
    · replace hk := ite_p (P := fun r : Nat × ow_I => K (some (.int (nI ((r).1)))) (S, (r).2, V, z)) q24 hk
      refine or_iload_n E rfl dX11_addBarrel_27 ?_
      refine or_bipush (v := nI 10) E rfl dX11_addBarrel_28 ?_
      refine or_sipush (v := nI 150) E rfl dX11_addBarrel_30 ?_
      refine or_cS3r (cM_in   ) E lk_11_173 dX11_addBarrel_33 (by decide) (by decide) ⟨Nat.le_refl _, Nat.le_refl _⟩ (Nat.le_of_ble_eq_true rfl) ?_
      refine or_if_neZ 43 E dX11_addBarrel_36 rfl (fun q36 => ?_) (fun q36 => ?_)
      · replace hk := ite_p (P := fun r : Nat × ow_I => K (some (.int (nI ((r).1)))) (S, (r).2, V, z)) q36 hk
        refine or_iconst (v := nI 0) E rfl dX11_addBarrel_43 ?_
        refine or_iconst (v := nI 1) E rfl dX11_addBarrel_44 ?_
        refine or_cV2r (cM_thrF h_m) E lk_11_166 dX11_addBarrel_45 h_m.1 rfl rfl (by decide) (by decide) ⟨Nat.le_refl _, Nat.le_refl _⟩ (Nat.le_of_ble_eq_true rfl) ?_
        refine or_if_eqZ 53 E dX11_addBarrel_48 rfl (fun q48 => ?_) (fun q48 => absurd q48 (by decide))
        refine or_aload_n E rfl dX11_addBarrel_53 ?_
        refine or_aload_n E rfl dX11_addBarrel_54 ?_
        refine ot_getC E fl_11_7 dX11_addBarrel_55 h_m.1 rfl ?_
        refine or_bipush (v := nI 7) E rfl dX11_addBarrel_58 ?_
        refine ot_iald (j := 7) E dX11_addBarrel_60 h_m.2.1 rfl rfl (by omega) (Nat.le_of_ble_eq_true rfl) ?_
        refine or_bipush (v := nI 20) E rfl dX11_addBarrel_61 ?_
        refine or_icmp_ne 70 E dX11_addBarrel_63 rfl (fun q63 => ?_) (fun q63 => ?_)
        · replace hk := ite_n (P := fun r : Nat × ow_I => K (some (.int (nI ((r).1)))) (S, (r).2, V, z)) q63 hk
          refine or_iconst (v := nI 0) E rfl dX11_addBarrel_70 ?_
          refine or_iconst (v := nI 2) E rfl dX11_addBarrel_71 ?_
          refine or_cV2r (cM_thrF h_m) E lk_11_166 dX11_addBarrel_72 h_m.1 rfl rfl (by decide) (by decide) ⟨Nat.le_refl _, Nat.le_refl _⟩ (Nat.le_of_ble_eq_true rfl) ?_
          refine or_if_eqZ 80 E dX11_addBarrel_75 rfl (fun q75 => ?_) (fun q75 => absurd q75 (by decide))
          refine or_aload_n E rfl dX11_addBarrel_80 ?_
          refine or_iconst (v := nI 0) E rfl dX11_addBarrel_81 ?_
          refine or_cV1v (cM_keep  h_m (by decide) (by subst hI1; rw [ow_u_k _ _ _ _ (by decide)]; exact ho) (by subst hI1; rw [ow_u_k _ _ _ _ (by decide)]; exact hob) (by subst hI1; rw [ow_u_k _ _ _ _ (by decide)]; exact hk2) (by subst hI1; rw [ow_u_k _ _ _ _ (by decide)]; exact hkb)) E lk_11_253 dX11_addBarrel_82 h_m.1 rfl rfl (by decide) (by decide) ⟨Nat.le_refl _, Nat.le_refl _⟩ (Nat.le_of_ble_eq_true rfl) ?_
          obtain ⟨I4, hI4⟩ : ∃ y_ : ow_I, y_ = M_keep m 0 I1 := ⟨_, rfl⟩
          replace hk := lt_k (P := fun r : Nat × ow_I => K (some (.int (nI ((r).1)))) (S, (r).2, V, z)) hI4 hk
          refine or_nmI hI4 ?_
          refine or_aload_n E rfl dX11_addBarrel_85 ?_
          refine or_iload_n E rfl dX11_addBarrel_86 ?_
          refine or_cV1r (cM_newBarrel  h_m (by subst hI4 hI1; exact ((V_keep (by rw [u_A]; exact hv) (by rw [ow_u_k _ _ _ _ (by decide)]; exact ho) (by rw [ow_u_k _ _ _ _ (by decide)]; exact hk2) (Or.inl rfl))).2.2.1.1) (by subst hI4 hI1; exact (ck7 (by rw [ow_u_k _ _ _ _ (by decide)]; exact ho) (by rw [ow_u_k _ _ _ _ (by decide)]; exact hk2) (by rw [u_A]; exact hv) q63)) (by subst hI4 hI1; exact ((V_keep (by rw [u_A]; exact hv) (by rw [ow_u_k _ _ _ _ (by decide)]; exact ho) (by rw [ow_u_k _ _ _ _ (by decide)]; exact hk2) (Or.inl rfl))).2.2.2.2.2.1.1) (by subst hI4 hI1; exact (mdV_qlt (V_keep (by rw [u_A]; exact hv) (by rw [ow_u_k _ _ _ _ (by decide)]; exact ho) (by rw [ow_u_k _ _ _ _ (by decide)]; exact hk2) (Or.inl rfl)) (ck7 (by rw [ow_u_k _ _ _ _ (by decide)]; exact ho) (by rw [ow_u_k _ _ _ _ (by decide)]; exact hk2) (by rw [u_A]; exact hv) q63)))) E lk_11_46 dX11_addBarrel_87 h_m.1 rfl rfl (by decide) (by decide) ⟨Nat.le_refl _, Nat.le_refl _⟩ (Nat.le_of_ble_eq_true rfl) ?_
          obtain ⟨r5, hr5⟩ : ∃ y_ : Nat × ow_I, y_ = M_newBarrel m r I4 := ⟨_, rfl⟩
          replace hk := lt_k (P := fun r : Nat × ow_I => K (some (.int (nI ((r).1)))) (S, (r).2, V, z)) hr5 hk
          refine or_nmN hr5 ?_
          refine or_istore E dX11_addBarrel_90 (by decide) ?_
          refine or_iconst (v := nI 0) E rfl dX11_addBarrel_92 ?_
          refine or_istore E dX11_addBarrel_93 (by decide) ?_
          refine or_lv _ ?_ (L95 10 _ _ _ (by subst hr5 hI4 hI1; rw [rdNB1]; exact ck7 (by rw [ow_u_k _ _ _ _ (by decide)]; exact ho) (by rw [ow_u_k _ _ _ _ (by decide)]; exact hk2) (by rw [u_A]; exact hv) q63) (by subst hr5 hI4 hI1; exact ⟨(i32_le (a := 1) (b := 9) (by decide) (by decide) (in_rng q24).1 (in_rng q24).2).1, (i32_le (a := 1) (b := 9) (by decide) (by decide) (in_rng q24).1 (in_rng q24).2).2.2⟩) (by subst hr5 hI4 hI1; rw [rdNB1]; exact nb_0 (ck7 (by rw [ow_u_k _ _ _ _ (by decide)]; exact ho) (by rw [ow_u_k _ _ _ _ (by decide)]; exact hk2) (by rw [u_A]; exact hv) q63) (mdV_qlt (V_keep (by rw [u_A]; exact hv) (by rw [ow_u_k _ _ _ _ (by decide)]; exact ho) (by rw [ow_u_k _ _ _ _ (by decide)]; exact hk2) (Or.inl rfl)) (ck7 (by rw [ow_u_k _ _ _ _ (by decide)]; exact ho) (by rw [ow_u_k _ _ _ _ (by decide)]; exact hk2) (by rw [u_A]; exact hv) q63))) (by decide) (by decide) hk)
          rfl
        · replace hk := ite_p (P := fun r : Nat × ow_I => K (some (.int (nI ((r).1)))) (S, (r).2, V, z)) q63 hk
          refine or_iconst (v := nI 1) E rfl dX11_addBarrel_66 ?_
          refine or_goto 71 E dX11_addBarrel_67 rfl ?_
          refine or_iconst (v := nI 2) E rfl dX11_addBarrel_71 ?_
          refine or_cV2r (cM_thrT h_m) E lk_11_166 dX11_addBarrel_72 h_m.1 rfl rfl (by decide) (by decide) ⟨Nat.le_refl _, Nat.le_refl _⟩ (Nat.le_of_ble_eq_true rfl) ?_
          obtain ⟨I7, hI7⟩ : ∃ y_ : ow_I, y_ = ow_u I1 m 18 (nI 2) := ⟨_, rfl⟩
          replace hk := lt_k (P := fun r : Nat × ow_I => K (some (.int (nI ((r).1)))) (S, (r).2, V, z)) hI7 hk
          refine or_nmI hI7 ?_
          refine or_if_eqZ 80 E dX11_addBarrel_75 rfl (fun q75 => absurd q75 (by decide)) (fun q75 => ?_)
          refine or_iconst (v := nI 0) E rfl dX11_addBarrel_78 ?_
          try dsimp only at hk
          exact or_iret E F dX11_addBarrel_79 (Nat.le_refl _) (Nat.le_refl _) hk
      · replace hk := ite_n (P := fun r : Nat × ow_I => K (some (.int (nI ((r).1)))) (S, (r).2, V, z)) (bz_neg q36) hk
        refine or_iconst (v := nI 1) E rfl dX11_addBarrel_39 ?_
        refine or_goto 44 E dX11_addBarrel_40 rfl ?_
        refine or_iconst (v := nI 1) E rfl dX11_addBarrel_44 ?_
        refine or_cV2r (cM_thrT h_m) E lk_11_166 dX11_addBarrel_45 h_m.1 rfl rfl (by decide) (by decide) ⟨Nat.le_refl _, Nat.le_refl _⟩ (Nat.le_of_ble_eq_true rfl) ?_
        obtain ⟨I8, hI8⟩ : ∃ y_ : ow_I, y_ = ow_u I1 m 18 (nI 1) := ⟨_, rfl⟩
        replace hk := lt_k (P := fun r : Nat × ow_I => K (some (.int (nI ((r).1)))) (S, (r).2, V, z)) hI8 hk
        refine or_nmI hI8 ?_
        refine or_if_eqZ 53 E dX11_addBarrel_48 rfl (fun q48 => absurd q48 (by decide)) (fun q48 => ?_)
        refine or_iconst (v := nI 0) E rfl dX11_addBarrel_51 ?_
        try dsimp only at hk
        exact or_iret E F dX11_addBarrel_52 (Nat.le_refl _) (Nat.le_refl _) hk
def M_split (m : Nat) (b : Int32) (e : Int32) (I : ow_I) : Nat × ow_I :=
  lt (M_lacksBarrel m b I) (fun (r1 : Bool × ow_I) => if r1.1 then (0, r1.2) else if M_in e (nI 1) (nI 8) r1.2 then if M_canSplit m (tn b) (tn e) r1.2 then lt (M_keep m 0 r1.2) (fun (I2 : ow_I) => lt (M_splitNow m (tn b) (tn e) I2) (fun (r3 : Nat × ow_I) => (r3.1, r3.2))) else lt (ow_u r1.2 m 18 (nI 3)) (fun (I4 : ow_I) => (0, I4)) else lt (ow_u r1.2 m 18 (nI 2)) (fun (I5 : ow_I) => (0, I5)))
set_option maxRecDepth 100000 in
set_option maxHeartbeats 400000 in
theorem cM_split {S : Nat → Option ow_Sh} {I : ow_I} {V : Nat → Nat → Value} {z : Nat} {m : Nat} {b : Int32} {e : Int32} (h_m : md_S S m) (hv : md_V (I (m + 1))) (ho : 0 ≤ I m 1) (hob : tn (I m 1) < 8) (hk2 : 0 ≤ I m 2) (hkb : tn (I m 2) ≤ 8) : ow_Cf yX11_split cX11_split 3 (some .int) 4 [.ref m, .int b, .int e] (S, I, V, z) (some (.int (nI ((M_split m b e I).1)))) (S, (M_split m b e I).2, V, z) := by
  refine ow_Cf.of rfl (Nat.le_of_ble_eq_true rfl) (fun X K E F hk => ?_)
  have E : ow_E X RX11 cX11_split 3 (ow_rm 4 0 0) := E
  refine or_lv [(0, .ref m), (1, .int b), (2, .int e)] rfl ?_
  dsimp only [M_split] at hk
  refine or_aload_n E rfl dX11_split_0 ?_
  refine or_iload_n E rfl dX11_split_1 ?_
  refine or_cV1r (cM_lacksBarrel  h_m ) E lk_11_308 dX11_split_2 h_m.1 rfl rfl (by decide) (by decide) ⟨Nat.le_refl _, Nat.le_refl _⟩ (Nat.le_of_ble_eq_true rfl) ?_
  obtain ⟨r1, hr1⟩ : ∃ y_ : Bool × ow_I, y_ = M_lacksBarrel m b I := ⟨_, rfl⟩
  replace hk := lt_k (P := fun r : Nat × ow_I => K (some (.int (nI ((r).1)))) (S, (r).2, V, z)) hr1 hk
  refine or_nmZ hr1 ?_
  refine or_if_neZ 31 E dX11_split_5 rfl (fun q5 => ?_) (fun q5 => ?_)
  · replace hk := ite_p (P := fun r : Nat × ow_I => K (some (.int (nI ((r).1)))) (S, (r).2, V, z)) q5 hk
    refine or_iconst (v := nI 0) E rfl dX11_split_31 ?_
    try dsimp only at hk
    exact or_iret E F dX11_split_32 (Nat.le_refl _) (Nat.le_refl _) hk
  · replace hk := ite_n (P := fun r : Nat × ow_I => K (some (.int (nI ((r).1)))) (S, (r).2, V, z)) (bz_neg q5) hk
    refine or_aload_n E rfl dX11_split_8 ?_
    refine or_iload_n E rfl dX11_split_9 ?_
    refine or_iconst (v := nI 1) E rfl dX11_split_10 ?_
    refine or_bipush (v := nI 8) E rfl dX11_split_11 ?_
    refine or_cS3r (cM_in   ) E lk_11_173 dX11_split_13 (by decide) (by decide) ⟨Nat.le_refl _, Nat.le_refl _⟩ (Nat.le_of_ble_eq_true rfl) ?_
    refine or_if_neZ 23 E dX11_split_16 rfl (fun q16 => ?_) (fun q16 => ?_)
    · replace hk := ite_p (P := fun r : Nat × ow_I => K (some (.int (nI ((r).1)))) (S, (r).2, V, z)) q16 hk
      refine or_iconst (v := nI 0) E rfl dX11_split_23 ?_
      refine or_iconst (v := nI 2) E rfl dX11_split_24 ?_
      refine or_cV2r (cM_thrF h_m) E lk_11_166 dX11_split_25 h_m.1 rfl rfl (by decide) (by decide) ⟨Nat.le_refl _, Nat.le_refl _⟩ (Nat.le_of_ble_eq_true rfl) ?_
      refine or_if_eqZ 33 E dX11_split_28 rfl (fun q28 => ?_) (fun q28 => absurd q28 (by decide))
      refine or_aload_n E rfl dX11_split_33 ?_
      refine or_aload_n E rfl dX11_split_34 ?_
      refine or_iload_n E rfl dX11_split_35 ?_
      refine or_top (nI_tn (by subst hr1; exact (lB_1 hv q5).1)).symm ?_
      refine or_iload_n E rfl dX11_split_36 ?_
      refine or_top (nI_tn (by subst hr1; exact (i32_le (a := 1) (b := 8) (by decide) (by decide) (in_rng q16).1 (in_rng q16).2).1)).symm ?_
      refine or_cV2r (cM_canSplit  h_m (by subst hr1; have h := (lB_1 hv q5).2; have := hv.2.2.1; omega)) E lk_11_271 dX11_split_37 h_m.1 rfl rfl (by decide) (by decide) ⟨Nat.le_refl _, Nat.le_refl _⟩ (Nat.le_of_ble_eq_true rfl) ?_
      refine or_if_neZ 47 E dX11_split_40 rfl (fun q40 => ?_) (fun q40 => ?_)
      · replace hk := ite_p (P := fun r : Nat × ow_I => K (some (.int (nI ((r).1)))) (S, (r).2, V, z)) q40 hk
        refine or_iconst (v := nI 0) E rfl dX11_split_47 ?_
        refine or_iconst (v := nI 3) E rfl dX11_split_48 ?_
        refine or_cV2r (cM_thrF h_m) E lk_11_166 dX11_split_49 h_m.1 rfl rfl (by decide) (by decide) ⟨Nat.le_refl _, Nat.le_refl _⟩ (Nat.le_of_ble_eq_true rfl) ?_
        refine or_if_eqZ 57 E dX11_split_52 rfl (fun q52 => ?_) (fun q52 => absurd q52 (by decide))
        refine or_aload_n E rfl dX11_split_57 ?_
        refine or_iconst (v := nI 0) E rfl dX11_split_58 ?_
        refine or_cV1v (cM_keep  h_m (by decide) (by subst hr1; rw [fr_lB (by decide)]; exact ho) (by subst hr1; rw [fr_lB (by decide)]; exact hob) (by subst hr1; rw [fr_lB (by decide)]; exact hk2) (by subst hr1; rw [fr_lB (by decide)]; exact hkb)) E lk_11_253 dX11_split_59 h_m.1 rfl rfl (by decide) (by decide) ⟨Nat.le_refl _, Nat.le_refl _⟩ (Nat.le_of_ble_eq_true rfl) ?_
        obtain ⟨I2, hI2⟩ : ∃ y_ : ow_I, y_ = M_keep m 0 r1.2 := ⟨_, rfl⟩
        replace hk := lt_k (P := fun r : Nat × ow_I => K (some (.int (nI ((r).1)))) (S, (r).2, V, z)) hI2 hk
        refine or_nmI hI2 ?_
        refine or_aload_n E rfl dX11_split_62 ?_
        refine or_iload_n E rfl dX11_split_63 ?_
        refine or_top (nI_tn (by subst hI2 hr1; exact (lB_1 hv q5).1)).symm ?_
        refine or_iload_n E rfl dX11_split_64 ?_
        refine or_top (nI_tn (by subst hI2 hr1; exact (i32_le (a := 1) (b := 8) (by decide) (by decide) (in_rng q16).1 (in_rng q16).2).1)).symm ?_
        refine or_cV2r (cM_splitNow  h_m (by subst hI2 hr1; exact (spl_h (by rw [fr_lB (by decide)]; exact ho) (by rw [fr_lB (by decide)]; exact hk2) (by rw [lB_A]; exact hv) (by rw [lB_A]; exact (lB_1 hv q5).2) (i32_le (a := 1) (b := 8) (by decide) (by decide) (in_rng q16).1 (in_rng q16).2).2.2 q40).1) (by subst hI2 hr1; exact (spl_h (by rw [fr_lB (by decide)]; exact ho) (by rw [fr_lB (by decide)]; exact hk2) (by rw [lB_A]; exact hv) (by rw [lB_A]; exact (lB_1 hv q5).2) (i32_le (a := 1) (b := 8) (by decide) (by decide) (in_rng q16).1 (in_rng q16).2).2.2 q40).2.1) (by subst hI2 hr1; exact (spl_h (by rw [fr_lB (by decide)]; exact ho) (by rw [fr_lB (by decide)]; exact hk2) (by rw [lB_A]; exact hv) (by rw [lB_A]; exact (lB_1 hv q5).2) (i32_le (a := 1) (b := 8) (by decide) (by decide) (in_rng q16).1 (in_rng q16).2).2.2 q40).2.2.1) (by subst hI2 hr1; exact (spl_h (by rw [fr_lB (by decide)]; exact ho) (by rw [fr_lB (by decide)]; exact hk2) (by rw [lB_A]; exact hv) (by rw [lB_A]; exact (lB_1 hv q5).2) (i32_le (a := 1) (b := 8) (by decide) (by decide) (in_rng q16).1 (in_rng q16).2).2.2 q40).2.2.2.1) (by subst hI2 hr1; exact ((V_keep (by rw [lB_A]; exact hv) (by rw [fr_lB (by decide)]; exact ho) (by rw [fr_lB (by decide)]; exact hk2) (Or.inl rfl))).2.2.1.1) (by subst hI2 hr1; exact (spl_h (by rw [fr_lB (by decide)]; exact ho) (by rw [fr_lB (by decide)]; exact hk2) (by rw [lB_A]; exact hv) (by rw [lB_A]; exact (lB_1 hv q5).2) (i32_le (a := 1) (b := 8) (by decide) (by decide) (in_rng q16).1 (in_rng q16).2).2.2 q40).2.2.2.2.1) (by subst hI2 hr1; exact ((V_keep (by rw [lB_A]; exact hv) (by rw [fr_lB (by decide)]; exact ho) (by rw [fr_lB (by decide)]; exact hk2) (Or.inl rfl))).2.2.2.2.2.1.1) (by subst hI2 hr1; exact (mdV_qlt (V_keep (by rw [lB_A]; exact hv) (by rw [fr_lB (by decide)]; exact ho) (by rw [fr_lB (by decide)]; exact hk2) (Or.inl rfl)) (spl_h (by rw [fr_lB (by decide)]; exact ho) (by rw [fr_lB (by decide)]; exact hk2) (by rw [lB_A]; exact hv) (by rw [lB_A]; exact (lB_1 hv q5).2) (i32_le (a := 1) (b := 8) (by decide) (by decide) (in_rng q16).1 (in_rng q16).2).2.2 q40).2.2.2.2.1))) E lk_11_275 dX11_split_65 h_m.1 rfl rfl (by decide) (by decide) ⟨Nat.le_refl _, Nat.le_refl _⟩ (Nat.le_of_ble_eq_true rfl) ?_
        obtain ⟨r3, hr3⟩ : ∃ y_ : Nat × ow_I, y_ = M_splitNow m (tn b) (tn e) I2 := ⟨_, rfl⟩
        replace hk := lt_k (P := fun r : Nat × ow_I => K (some (.int (nI ((r).1)))) (S, (r).2, V, z)) hr3 hk
        refine or_nmN hr3 ?_
        try dsimp only at hk
        exact or_iret E F dX11_split_68 (Nat.le_refl _) (Nat.le_refl _) hk
      · replace hk := ite_n (P := fun r : Nat × ow_I => K (some (.int (nI ((r).1)))) (S, (r).2, V, z)) (bz_neg q40) hk
        refine or_iconst (v := nI 1) E rfl dX11_split_43 ?_
        refine or_goto 48 E dX11_split_44 rfl ?_
        refine or_iconst (v := nI 3) E rfl dX11_split_48 ?_
        refine or_cV2r (cM_thrT h_m) E lk_11_166 dX11_split_49 h_m.1 rfl rfl (by decide) (by decide) ⟨Nat.le_refl _, Nat.le_refl _⟩ (Nat.le_of_ble_eq_true rfl) ?_
        obtain ⟨I4, hI4⟩ : ∃ y_ : ow_I, y_ = ow_u r1.2 m 18 (nI 3) := ⟨_, rfl⟩
        replace hk := lt_k (P := fun r : Nat × ow_I => K (some (.int (nI ((r).1)))) (S, (r).2, V, z)) hI4 hk
        refine or_nmI hI4 ?_
        refine or_if_eqZ 57 E dX11_split_52 rfl (fun q52 => absurd q52 (by decide)) (fun q52 => ?_)
        refine or_iconst (v := nI 0) E rfl dX11_split_55 ?_
        try dsimp only at hk
        exact or_iret E F dX11_split_56 (Nat.le_refl _) (Nat.le_refl _) hk
    · replace hk := ite_n (P := fun r : Nat × ow_I => K (some (.int (nI ((r).1)))) (S, (r).2, V, z)) (bz_neg q16) hk
      refine or_iconst (v := nI 1) E rfl dX11_split_19 ?_
      refine or_goto 24 E dX11_split_20 rfl ?_
      refine or_iconst (v := nI 2) E rfl dX11_split_24 ?_
      refine or_cV2r (cM_thrT h_m) E lk_11_166 dX11_split_25 h_m.1 rfl rfl (by decide) (by decide) ⟨Nat.le_refl _, Nat.le_refl _⟩ (Nat.le_of_ble_eq_true rfl) ?_
      obtain ⟨I5, hI5⟩ : ∃ y_ : ow_I, y_ = ow_u r1.2 m 18 (nI 2) := ⟨_, rfl⟩
      replace hk := lt_k (P := fun r : Nat × ow_I => K (some (.int (nI ((r).1)))) (S, (r).2, V, z)) hI5 hk
      refine or_nmI hI5 ?_
      refine or_if_eqZ 33 E dX11_split_28 rfl (fun q28 => absurd q28 (by decide)) (fun q28 => ?_)
      refine or_iconst (v := nI 0) E rfl dX11_split_31 ?_
      try dsimp only at hk
      exact or_iret E F dX11_split_32 (Nat.le_refl _) (Nat.le_refl _) hk
