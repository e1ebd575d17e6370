def cutQ (x : Nat) (b n : Int32) (I : ow_I) : Prop := (au_V x (L_split x b n I).2 ∧ (0 ≤ b ∧ tn b < tn ((L_split x b n I).2 (x + 1) 10))) ∧ ((L_split x b n I).1 = I (x + 1) 10 → 0 ≤ I (x + 1) 10 ∧ tn (I (x + 1) 10) < tn ((L_split x b n I).2 (x + 1) 10)) ∧ ¬ A_eels x b I = 0
set_option maxRecDepth 100000
theorem lk_120_177 : ow_lv RX120 177 yX10_barrelCount cX10_barrelCount 1 (some .int) 0 := ⟨ow_T_in 559 (by decide +kernel) (by decide +kernel), ow_T_in 560 (by decide +kernel) (by decide +kernel), ow_T_in 561 (by decide +kernel) (by decide +kernel), ow_T_in 1 (by decide +kernel) (by decide +kernel), ow_T_in 562 (by decide +kernel) (by decide +kernel), ⟨by decide +kernel, by decide +kernel, by decide +kernel⟩⟩
theorem lk_120_180 : ow_lv RX120 180 yX10_totalLength cX10_totalLength 2 (some .int) 1 := ⟨ow_T_in 967 (by decide +kernel) (by decide +kernel), ow_T_in 968 (by decide +kernel) (by decide +kernel), ow_T_in 969 (by decide +kernel) (by decide +kernel), ow_T_in 1 (by decide +kernel) (by decide +kernel), ow_T_in 970 (by decide +kernel) (by decide +kernel), ⟨by decide +kernel, by decide +kernel, by decide +kernel⟩⟩
theorem lh_120_183 : ow_lh RX120 183 yL_split cL_split 4 (some .int) [(0, 6, 7, 169)] 3 := ⟨ow_T_in 1071 (by decide +kernel) (by decide +kernel), ow_T_in 1072 (by decide +kernel) (by decide +kernel), ow_T_in 0 (by decide +kernel) (by decide +kernel), ow_T_in 1073 (by decide +kernel) (by decide +kernel), ⟨by decide +kernel, by decide +kernel, by decide +kernel⟩⟩
def L_cut (x : Nat) (b : Int32) (n : Int32) (I : ow_I) : Bool × ow_I :=
  lt (L_split x b n I) (fun (r1 : Int32 × ow_I) => lt (if A_barrelCount x I = nI 20 then true else if A_eels x b I ≤ n then true else if A_stateOf x b r1.2 = 0 then false else true) (fun (b40 : Bool) => if b40 then if r1.1 = (-100) then if A_barrelCount x r1.2 = A_barrelCount x I then if A_eels x b r1.2 = A_eels x b I then (true, r1.2) else (false, r1.2) else (false, r1.2) else (false, r1.2) else if r1.1 = A_barrelCount x I then if A_eels x (A_barrelCount x I) r1.2 = n then if A_eels x b r1.2 = A_eels x b I - n then if A_totalLength x (A_barrelCount x I) r1.2 + (A_totalLength x b r1.2) = A_totalLength x b I then if A_queuedBarrel x (A_queueLength x I) r1.2 = A_barrelCount x I then if A_reserve x (A_barrelCount x I) r1.2 = i_max (nI 1) (((A_reserve x b I) * n) / (A_eels x b I)) then if A_reserve x b r1.2 = i_max (nI 1) (A_reserve x b I - (((A_reserve x b I) * n) / (A_eels x b I))) then if A_returns x (A_barrelCount x I) r1.2 = 0 then if A_stateOf x (A_barrelCount x I) r1.2 = 0 then (true, r1.2) else (false, r1.2) else (false, r1.2) else (false, r1.2) else (false, r1.2) else (false, r1.2) else (false, r1.2) else (false, r1.2) else (false, r1.2) else (false, r1.2)))
set_option maxRecDepth 100000 in
set_option maxHeartbeats 400000 in
theorem tL_cut {Z : Nat → Nat} {S : Nat → Option ow_Sh} {I : ow_I} {V : Nat → Nat → Value} {z : Nat} {x : Nat} {b : Int32} {n : Int32} (h_x : au_S S x) (hX : au_V x I) (hb : 0 ≤ b ∧ tn b < tn (I (x + 1) 10)) (hr : nI 1 ≤ n ∧ n ≤ nI 8) (hQ : cutQ x b n I) : ow_Cx Z yL_cut cL_cut 10 (some .boolean) 12 1 6 [.ref x, .int b, .int n] (S, I, V, z) (ox_z S V z (some (.int (bi ((L_cut x b n I).1)))) ((L_cut x b n I).2)) := by
  refine ow_Cx.ofz rfl (Nat.le_of_ble_eq_true rfl) (fun X K E G F hk => ?_)
  have E : ow_E X RX120 cL_cut 10 (ow_rm 12 1 6) := E
  refine or_lv [(0, .ref x), (1, .int b), (2, .int n)] rfl ?_
  try dsimp only [L_cut] at hk
  refine or_aload_n E rfl dL_cut_0 ?_
  refine or_fV0r (cA_barrelCount (Z := Z)  h_x ) E G F lk_120_177 dL_cut_1 h_x.1 rfl rfl (by decide) (by decide) ⟨(Nat.le_of_ble_eq_true rfl), (Nat.le_of_ble_eq_true rfl)⟩ (Nat.le_of_ble_eq_true rfl) (fun _ => ?_) (fun h => absurd h (Nat.lt_irrefl 0))
  refine or_istore_n E dL_cut_4 (by decide) ?_
  refine or_aload_n E rfl dL_cut_5 ?_
  refine or_iload_n E rfl dL_cut_6 ?_
  refine or_fV1r (cA_eels (Z := Z)  h_x hX.1 hb) E G F lk_120_79 dL_cut_7 h_x.1 rfl rfl (by decide) (by decide) ⟨(Nat.le_of_ble_eq_true rfl), (Nat.le_of_ble_eq_true rfl)⟩ (Nat.le_of_ble_eq_true rfl) (fun _ => ?_) (fun h => absurd h (Nat.lt_irrefl 0))
  refine or_istore E dL_cut_10 (by decide) ?_
  refine or_aload_n E rfl dL_cut_12 ?_
  refine or_iload_n E rfl dL_cut_13 ?_
  refine or_fV1r (cA_totalLength (Z := Z)  h_x hX.1 hb) E G F lk_120_180 dL_cut_14 h_x.1 rfl rfl (by decide) (by decide) ⟨(Nat.le_of_ble_eq_true rfl), (Nat.le_of_ble_eq_true rfl)⟩ (Nat.le_of_ble_eq_true rfl) (fun _ => ?_) (fun h => absurd h (Nat.lt_irrefl 0))
  refine or_istore E dL_cut_17 (by decide) ?_
  refine or_aload_n E rfl dL_cut_19 ?_
  refine or_iload_n E rfl dL_cut_20 ?_
  refine or_fV1r (cA_reserve (Z := Z)  h_x hX.1 hb) E G F lk_120_109 dL_cut_21 h_x.1 rfl rfl (by decide) (by decide) ⟨(Nat.le_of_ble_eq_true rfl), (Nat.le_of_ble_eq_true rfl)⟩ (Nat.le_of_ble_eq_true rfl) (fun _ => ?_) (fun h => absurd h (Nat.lt_irrefl 0))
  refine or_istore E dL_cut_24 (by decide) ?_
  refine or_aload_n E rfl dL_cut_26 ?_
  refine or_fV0r (cA_queueLength (Z := Z)  h_x ) E G F lk_120_66 dL_cut_27 h_x.1 rfl rfl (by decide) (by decide) ⟨(Nat.le_of_ble_eq_true rfl), (Nat.le_of_ble_eq_true rfl)⟩ (Nat.le_of_ble_eq_true rfl) (fun _ => ?_) (fun h => absurd h (Nat.lt_irrefl 0))
  refine or_istore E dL_cut_30 (by decide) ?_
  refine or_aload_n E rfl dL_cut_32 ?_
  refine or_iload_n E rfl dL_cut_33 ?_
  refine or_iload_n E rfl dL_cut_34 ?_
  refine oy_S [.ref x, .int b, .int n] (tL_split (Z := Z) h_x hX hb hr) E G lh_120_183 dL_cut_35 rfl (by decide) (by decide) ⟨by omega, by omega⟩ (Nat.le_of_ble_eq_true rfl) (fun r h1 q => ?_)
  obtain ⟨rfl, z1, hz1, rfl⟩ := q
  obtain ⟨r1, hr1⟩ : ∃ y_ : Int32 × ow_I, y_ = L_split x b n I := ⟨_, rfl⟩
  replace hk := lt_k (P := fun r : Bool × ow_I => ∀ z_ : Nat, z ≤ z_ → K 0 (some (.int (bi ((r).1)))) (S, (r).2, V, z_)) hr1 hk
  refine or_nmJ hr1 ?_
  refine or_istore E dL_cut_38 (by decide) ?_
  obtain ⟨b40, hb40⟩ : ∃ y_ : Bool, y_ = if A_barrelCount x I = nI 20 then true else if A_eels x b I ≤ n then true else if A_stateOf x b r1.2 = 0 then false else true := ⟨_, rfl⟩
  replace hk := lt_k (P := fun r : Bool × ow_I => ∀ z_ : Nat, z ≤ z_ → K 0 (some (.int (bi ((r).1)))) (S, (r).2, V, z_)) hb40 hk
  have J40t : b40 = true → ow_W X (0 + 1) (0 + 6) (S, r1.2, V, z1) 60 [(0, .ref x), (1, .int b), (2, .int n), (3, .int (A_barrelCount x I)), (4, .int (A_eels x b I)), (5, .int (A_totalLength x b I)), (6, .int (A_reserve x b I)), (7, .int (A_queueLength x I)), (8, .int r1.1)] [] := by
    intro hb40v
    replace hk := ite_p (P := fun r : Bool × ow_I => ∀ z_ : Nat, z ≤ z_ → K 0 (some (.int (bi ((r).1)))) (S, (r).2, V, z_)) hb40v hk
    refine or_iload E rfl dL_cut_60 ?_
    refine or_bipush (v := -100) E rfl dL_cut_62 ?_
    refine or_icmp_ne 89 E dL_cut_64 rfl (fun q64 => ?_) (fun q64 => ?_)
    · replace hk := ite_n (P := fun r : Bool × ow_I => ∀ z_ : Nat, z ≤ z_ → K 0 (some (.int (bi ((r).1)))) (S, (r).2, V, z_)) q64 hk
      refine or_iconst (v := nI 0) E rfl dL_cut_89 ?_
      try dsimp only at hk
      exact or_xr E F (fun X' E' F' => or_zret E' F' dL_cut_90 (Nat.le_of_ble_eq_true rfl) (Nat.le_of_ble_eq_true rfl) (bi_nar false) (hk _ (Nat.le_trans (Nat.le_refl _) hz1)))
    · replace hk := ite_p (P := fun r : Bool × ow_I => ∀ z_ : Nat, z ≤ z_ → K 0 (some (.int (bi ((r).1)))) (S, (r).2, V, z_)) q64 hk
      refine or_aload_n E rfl dL_cut_67 ?_
      refine or_fV0r (cA_barrelCount (Z := Z)  h_x ) E G F lk_120_177 dL_cut_68 h_x.1 rfl rfl (by decide) (by decide) ⟨(Nat.le_of_ble_eq_true rfl), (Nat.le_of_ble_eq_true rfl)⟩ (Nat.le_of_ble_eq_true rfl) (fun _ => ?_) (fun h => absurd h (Nat.lt_irrefl 0))
      refine or_iload_n E rfl dL_cut_71 ?_
      refine or_icmp_ne 89 E dL_cut_72 rfl (fun q72 => ?_) (fun q72 => ?_)
      · replace hk := ite_n (P := fun r : Bool × ow_I => ∀ z_ : Nat, z ≤ z_ → K 0 (some (.int (bi ((r).1)))) (S, (r).2, V, z_)) q72 hk
        refine or_iconst (v := nI 0) E rfl dL_cut_89 ?_
        try dsimp only at hk
        exact or_xr E F (fun X' E' F' => or_zret E' F' dL_cut_90 (Nat.le_of_ble_eq_true rfl) (Nat.le_of_ble_eq_true rfl) (bi_nar false) (hk _ (Nat.le_trans (Nat.le_refl _) hz1)))
      · replace hk := ite_p (P := fun r : Bool × ow_I => ∀ z_ : Nat, z ≤ z_ → K 0 (some (.int (bi ((r).1)))) (S, (r).2, V, z_)) q72 hk
        refine or_aload_n E rfl dL_cut_75 ?_
        refine or_iload_n E rfl dL_cut_76 ?_
        refine or_fV1r (cA_eels (Z := Z)  h_x (by subst hr1; exact hQ.1.1.1) (by subst hr1; exact hQ.1.2)) E G F lk_120_79 dL_cut_77 h_x.1 rfl rfl (by decide) (by decide) ⟨(Nat.le_of_ble_eq_true rfl), (Nat.le_of_ble_eq_true rfl)⟩ (Nat.le_of_ble_eq_true rfl) (fun _ => ?_) (fun h => absurd h (Nat.lt_irrefl 0))
        refine or_iload E rfl dL_cut_80 ?_
        refine or_icmp_ne 89 E dL_cut_82 rfl (fun q82 => ?_) (fun q82 => ?_)
        · replace hk := ite_n (P := fun r : Bool × ow_I => ∀ z_ : Nat, z ≤ z_ → K 0 (some (.int (bi ((r).1)))) (S, (r).2, V, z_)) q82 hk
          refine or_iconst (v := nI 0) E rfl dL_cut_89 ?_
          try dsimp only at hk
          exact or_xr E F (fun X' E' F' => or_zret E' F' dL_cut_90 (Nat.le_of_ble_eq_true rfl) (Nat.le_of_ble_eq_true rfl) (bi_nar false) (hk _ (Nat.le_trans (Nat.le_refl _) hz1)))
        · replace hk := ite_p (P := fun r : Bool × ow_I => ∀ z_ : Nat, z ≤ z_ → K 0 (some (.int (bi ((r).1)))) (S, (r).2, V, z_)) q82 hk
          refine or_iconst (v := nI 1) E rfl dL_cut_85 ?_
          refine or_goto 90 E dL_cut_86 rfl ?_
          try dsimp only at hk
          exact or_xr E F (fun X' E' F' => or_zret E' F' dL_cut_90 (Nat.le_of_ble_eq_true rfl) (Nat.le_of_ble_eq_true rfl) (bi_nar true) (hk _ (Nat.le_trans (Nat.le_refl _) hz1)))
  have J40f : b40 = false → ow_W X (0 + 1) (0 + 6) (S, r1.2, V, z1) 91 [(0, .ref x), (1, .int b), (2, .int n), (3, .int (A_barrelCount x I)), (4, .int (A_eels x b I)), (5, .int (A_totalLength x b I)), (6, .int (A_reserve x b I)), (7, .int (A_queueLength x I)), (8, .int r1.1)] [] := by
    intro hb40v
    replace hk := ite_n (P := fun r : Bool × ow_I => ∀ z_ : Nat, z ≤ z_ → K 0 (some (.int (bi ((r).1)))) (S, (r).2, V, z_)) (bz_neg hb40v) hk
    refine or_iload E rfl dL_cut_91 ?_
    refine or_iload_n E rfl dL_cut_93 ?_
    refine or_imul E dL_cut_94 ?_
    refine or_iload E rfl dL_cut_95 ?_
    refine or_idiv E (by subst hr1; exact hQ.2.2) dL_cut_97 ?_
    refine or_istore E dL_cut_98 (by decide) ?_
    refine or_iload E rfl dL_cut_100 ?_
    refine or_iload_n E rfl dL_cut_102 ?_
    refine or_icmp_ne 153 E dL_cut_103 rfl (fun q103 => ?_) (fun q103 => ?_)
    · replace hk := ite_n (P := fun r : Bool × ow_I => ∀ z_ : Nat, z ≤ z_ → K 0 (some (.int (bi ((r).1)))) (S, (r).2, V, z_)) q103 hk
      refine or_iconst (v := nI 0) E rfl dL_cut_153 ?_
      try dsimp only at hk
      exact or_xr E F (fun X' E' F' => or_zret E' F' dL_cut_154 (Nat.le_of_ble_eq_true rfl) (Nat.le_of_ble_eq_true rfl) (bi_nar false) (hk _ (Nat.le_trans (Nat.le_refl _) hz1)))
    · replace hk := ite_p (P := fun r : Bool × ow_I => ∀ z_ : Nat, z ≤ z_ → K 0 (some (.int (bi ((r).1)))) (S, (r).2, V, z_)) q103 hk
      refine or_aload_n E rfl dL_cut_106 ?_
      refine or_iload_n E rfl dL_cut_107 ?_
      refine or_fV1r (cA_eels (Z := Z)  h_x (by subst hr1; exact hQ.1.1.1) (by subst hr1; exact (hQ.2.1 q103))) E G F lk_120_79 dL_cut_108 h_x.1 rfl rfl (by decide) (by decide) ⟨(Nat.le_of_ble_eq_true rfl), (Nat.le_of_ble_eq_true rfl)⟩ (Nat.le_of_ble_eq_true rfl) (fun _ => ?_) (fun h => absurd h (Nat.lt_irrefl 0))
      refine or_iload_n E rfl dL_cut_111 ?_
      refine or_icmp_ne 153 E dL_cut_112 rfl (fun q112 => ?_) (fun q112 => ?_)
      · replace hk := ite_n (P := fun r : Bool × ow_I => ∀ z_ : Nat, z ≤ z_ → K 0 (some (.int (bi ((r).1)))) (S, (r).2, V, z_)) q112 hk
        refine or_iconst (v := nI 0) E rfl dL_cut_153 ?_
        try dsimp only at hk
        exact or_xr E F (fun X' E' F' => or_zret E' F' dL_cut_154 (Nat.le_of_ble_eq_true rfl) (Nat.le_of_ble_eq_true rfl) (bi_nar false) (hk _ (Nat.le_trans (Nat.le_refl _) hz1)))
      · replace hk := ite_p (P := fun r : Bool × ow_I => ∀ z_ : Nat, z ≤ z_ → K 0 (some (.int (bi ((r).1)))) (S, (r).2, V, z_)) q112 hk
        refine or_aload_n E rfl dL_cut_115 ?_
        refine or_iload_n E rfl dL_cut_116 ?_
        refine or_fV1r (cA_eels (Z := Z)  h_x (by subst hr1; exact hQ.1.1.1) (by subst hr1; exact hQ.1.2)) E G F lk_120_79 dL_cut_117 h_x.1 rfl rfl (by decide) (by decide) ⟨(Nat.le_of_ble_eq_true rfl), (Nat.le_of_ble_eq_true rfl)⟩ (Nat.le_of_ble_eq_true rfl) (fun _ => ?_) (fun h => absurd h (Nat.lt_irrefl 0))
        refine or_iload E rfl dL_cut_120 ?_
        refine or_iload_n E rfl dL_cut_122 ?_
        refine or_isub E dL_cut_123 ?_
        refine or_icmp_ne 153 E dL_cut_124 rfl (fun q124 => ?_) (fun q124 => ?_)
        · replace hk := ite_n (P := fun r : Bool × ow_I => ∀ z_ : Nat, z ≤ z_ → K 0 (some (.int (bi ((r).1)))) (S, (r).2, V, z_)) q124 hk
          refine or_iconst (v := nI 0) E rfl dL_cut_153 ?_
          try dsimp only at hk
          exact or_xr E F (fun X' E' F' => or_zret E' F' dL_cut_154 (Nat.le_of_ble_eq_true rfl) (Nat.le_of_ble_eq_true rfl) (bi_nar false) (hk _ (Nat.le_trans (Nat.le_refl _) hz1)))
        · replace hk := ite_p (P := fun r : Bool × ow_I => ∀ z_ : Nat, z ≤ z_ → K 0 (some (.int (bi ((r).1)))) (S, (r).2, V, z_)) q124 hk
          refine or_aload_n E rfl dL_cut_127 ?_
          refine or_iload_n E rfl dL_cut_128 ?_
          refine or_fV1r (cA_totalLength (Z := Z)  h_x (by subst hr1; exact hQ.1.1.1) (by subst hr1; exact (hQ.2.1 q103))) E G F lk_120_180 dL_cut_129 h_x.1 rfl rfl (by decide) (by decide) ⟨(Nat.le_of_ble_eq_true rfl), (Nat.le_of_ble_eq_true rfl)⟩ (Nat.le_of_ble_eq_true rfl) (fun _ => ?_) (fun h => absurd h (Nat.lt_irrefl 0))
          refine or_aload_n E rfl dL_cut_132 ?_
          refine or_iload_n E rfl dL_cut_133 ?_
          refine or_fV1r (cA_totalLength (Z := Z)  h_x (by subst hr1; exact hQ.1.1.1) (by subst hr1; exact hQ.1.2)) E G F lk_120_180 dL_cut_134 h_x.1 rfl rfl (by decide) (by decide) ⟨(Nat.le_of_ble_eq_true rfl), (Nat.le_of_ble_eq_true rfl)⟩ (Nat.le_of_ble_eq_true rfl) (fun _ => ?_) (fun h => absurd h (Nat.lt_irrefl 0))
          refine or_iadd E dL_cut_137 ?_
          refine or_iload E rfl dL_cut_138 ?_
          refine or_icmp_ne 153 E dL_cut_140 rfl (fun q140 => ?_) (fun q140 => ?_)
          · replace hk := ite_n (P := fun r : Bool × ow_I => ∀ z_ : Nat, z ≤ z_ → K 0 (some (.int (bi ((r).1)))) (S, (r).2, V, z_)) q140 hk
            refine or_iconst (v := nI 0) E rfl dL_cut_153 ?_
            try dsimp only at hk
            exact or_xr E F (fun X' E' F' => or_zret E' F' dL_cut_154 (Nat.le_of_ble_eq_true rfl) (Nat.le_of_ble_eq_true rfl) (bi_nar false) (hk _ (Nat.le_trans (Nat.le_refl _) hz1)))
          · replace hk := ite_p (P := fun r : Bool × ow_I => ∀ z_ : Nat, z ≤ z_ → K 0 (some (.int (bi ((r).1)))) (S, (r).2, V, z_)) q140 hk
            refine or_aload_n E rfl dL_cut_143 ?_
            refine or_iload E rfl dL_cut_144 ?_
            refine or_fV1r (cA_queuedBarrel (Z := Z)  h_x (by subst hr1; exact hQ.1.1)) E G F lk_120_139 dL_cut_146 h_x.1 rfl rfl (by decide) (by decide) ⟨(Nat.le_of_ble_eq_true rfl), (Nat.le_of_ble_eq_true rfl)⟩ (Nat.le_of_ble_eq_true rfl) (fun _ => ?_) (fun h => absurd h (Nat.lt_irrefl 0))
            refine or_iload_n E rfl dL_cut_149 ?_
            refine or_icmp_eq 155 E dL_cut_150 rfl (fun q150 => ?_) (fun q150 => ?_)
            · replace hk := ite_p (P := fun r : Bool × ow_I => ∀ z_ : Nat, z ≤ z_ → K 0 (some (.int (bi ((r).1)))) (S, (r).2, V, z_)) q150 hk
              refine or_aload_n E rfl dL_cut_155 ?_
              refine or_iload_n E rfl dL_cut_156 ?_
              refine or_fV1r (cA_reserve (Z := Z)  h_x (by subst hr1; exact hQ.1.1.1) (by subst hr1; exact (hQ.2.1 q103))) E G F lk_120_109 dL_cut_157 h_x.1 rfl rfl (by decide) (by decide) ⟨(Nat.le_of_ble_eq_true rfl), (Nat.le_of_ble_eq_true rfl)⟩ (Nat.le_of_ble_eq_true rfl) (fun _ => ?_) (fun h => absurd h (Nat.lt_irrefl 0))
              refine or_iconst (v := nI 1) E rfl dL_cut_160 ?_
              refine or_iload E rfl dL_cut_161 ?_
              refine or_mmax E lm_120_85 dL_cut_163 (Nat.le_of_ble_eq_true rfl) ⟨(Nat.le_of_ble_eq_true rfl), (Nat.le_of_ble_eq_true rfl)⟩ (Nat.le_of_ble_eq_true rfl) ?_
              refine or_icmp_ne 206 E dL_cut_166 rfl (fun q166 => ?_) (fun q166 => ?_)
              · replace hk := ite_n (P := fun r : Bool × ow_I => ∀ z_ : Nat, z ≤ z_ → K 0 (some (.int (bi ((r).1)))) (S, (r).2, V, z_)) q166 hk
                refine or_iconst (v := nI 0) E rfl dL_cut_206 ?_
                try dsimp only at hk
                exact or_xr E F (fun X' E' F' => or_zret E' F' dL_cut_207 (Nat.le_of_ble_eq_true rfl) (Nat.le_of_ble_eq_true rfl) (bi_nar false) (hk _ (Nat.le_trans (Nat.le_refl _) hz1)))
              · replace hk := ite_p (P := fun r : Bool × ow_I => ∀ z_ : Nat, z ≤ z_ → K 0 (some (.int (bi ((r).1)))) (S, (r).2, V, z_)) q166 hk
                refine or_aload_n E rfl dL_cut_169 ?_
                refine or_iload_n E rfl dL_cut_170 ?_
                refine or_fV1r (cA_reserve (Z := Z)  h_x (by subst hr1; exact hQ.1.1.1) (by subst hr1; exact hQ.1.2)) E G F lk_120_109 dL_cut_171 h_x.1 rfl rfl (by decide) (by decide) ⟨(Nat.le_of_ble_eq_true rfl), (Nat.le_of_ble_eq_true rfl)⟩ (Nat.le_of_ble_eq_true rfl) (fun _ => ?_) (fun h => absurd h (Nat.lt_irrefl 0))
                refine or_iconst (v := nI 1) E rfl dL_cut_174 ?_
                refine or_iload E rfl dL_cut_175 ?_
                refine or_iload E rfl dL_cut_177 ?_
                refine or_isub E dL_cut_179 ?_
                refine or_mmax E lm_120_85 dL_cut_180 (Nat.le_of_ble_eq_true rfl) ⟨(Nat.le_of_ble_eq_true rfl), (Nat.le_of_ble_eq_true rfl)⟩ (Nat.le_of_ble_eq_true rfl) ?_
                refine or_icmp_ne 206 E dL_cut_183 rfl (fun q183 => ?_) (fun q183 => ?_)
                · replace hk := ite_n (P := fun r : Bool × ow_I => ∀ z_ : Nat, z ≤ z_ → K 0 (some (.int (bi ((r).1)))) (S, (r).2, V, z_)) q183 hk
                  refine or_iconst (v := nI 0) E rfl dL_cut_206 ?_
                  try dsimp only at hk
                  exact or_xr E F (fun X' E' F' => or_zret E' F' dL_cut_207 (Nat.le_of_ble_eq_true rfl) (Nat.le_of_ble_eq_true rfl) (bi_nar false) (hk _ (Nat.le_trans (Nat.le_refl _) hz1)))
                · replace hk := ite_p (P := fun r : Bool × ow_I => ∀ z_ : Nat, z ≤ z_ → K 0 (some (.int (bi ((r).1)))) (S, (r).2, V, z_)) q183 hk
                  refine or_aload_n E rfl dL_cut_186 ?_
                  refine or_iload_n E rfl dL_cut_187 ?_
                  refine or_fV1r (cA_returns (Z := Z)  h_x (by subst hr1; exact hQ.1.1.1) (by subst hr1; exact (hQ.2.1 q103))) E G F lk_120_151 dL_cut_188 h_x.1 rfl rfl (by decide) (by decide) ⟨(Nat.le_of_ble_eq_true rfl), (Nat.le_of_ble_eq_true rfl)⟩ (Nat.le_of_ble_eq_true rfl) (fun _ => ?_) (fun h => absurd h (Nat.lt_irrefl 0))
                  refine or_if_ne 206 E dL_cut_191 rfl (fun q191 => ?_) (fun q191 => ?_)
                  · replace hk := ite_n (P := fun r : Bool × ow_I => ∀ z_ : Nat, z ≤ z_ → K 0 (some (.int (bi ((r).1)))) (S, (r).2, V, z_)) q191 hk
                    refine or_iconst (v := nI 0) E rfl dL_cut_206 ?_
                    try dsimp only at hk
                    exact or_xr E F (fun X' E' F' => or_zret E' F' dL_cut_207 (Nat.le_of_ble_eq_true rfl) (Nat.le_of_ble_eq_true rfl) (bi_nar false) (hk _ (Nat.le_trans (Nat.le_refl _) hz1)))
                  · replace hk := ite_p (P := fun r : Bool × ow_I => ∀ z_ : Nat, z ≤ z_ → K 0 (some (.int (bi ((r).1)))) (S, (r).2, V, z_)) q191 hk
                    refine or_aload_n E rfl dL_cut_194 ?_
                    refine or_iload_n E rfl dL_cut_195 ?_
                    refine or_fV1r (cA_stateOf (Z := Z)  h_x (by subst hr1; exact hQ.1.1.1) (by subst hr1; exact (hQ.2.1 q103))) E G F lk_120_157 dL_cut_196 h_x.1 rfl rfl (by decide) (by decide) ⟨(Nat.le_of_ble_eq_true rfl), (Nat.le_of_ble_eq_true rfl)⟩ (Nat.le_of_ble_eq_true rfl) (fun _ => ?_) (fun h => absurd h (Nat.lt_irrefl 0))
                    refine or_if_ne 206 E dL_cut_199 rfl (fun q199 => ?_) (fun q199 => ?_)
                    · replace hk := ite_n (P := fun r : Bool × ow_I => ∀ z_ : Nat, z ≤ z_ → K 0 (some (.int (bi ((r).1)))) (S, (r).2, V, z_)) q199 hk
                      refine or_iconst (v := nI 0) E rfl dL_cut_206 ?_
                      try dsimp only at hk
                      exact or_xr E F (fun X' E' F' => or_zret E' F' dL_cut_207 (Nat.le_of_ble_eq_true rfl) (Nat.le_of_ble_eq_true rfl) (bi_nar false) (hk _ (Nat.le_trans (Nat.le_refl _) hz1)))
                    · replace hk := ite_p (P := fun r : Bool × ow_I => ∀ z_ : Nat, z ≤ z_ → K 0 (some (.int (bi ((r).1)))) (S, (r).2, V, z_)) q199 hk
                      refine or_iconst (v := nI 1) E rfl dL_cut_202 ?_
                      refine or_goto 207 E dL_cut_203 rfl ?_
                      try dsimp only at hk
                      exact or_xr E F (fun X' E' F' => or_zret E' F' dL_cut_207 (Nat.le_of_ble_eq_true rfl) (Nat.le_of_ble_eq_true rfl) (bi_nar true) (hk _ (Nat.le_trans (Nat.le_refl _) hz1)))
            · replace hk := ite_n (P := fun r : Bool × ow_I => ∀ z_ : Nat, z ≤ z_ → K 0 (some (.int (bi ((r).1)))) (S, (r).2, V, z_)) q150 hk
              refine or_iconst (v := nI 0) E rfl dL_cut_153 ?_
              try dsimp only at hk
              exact or_xr E F (fun X' E' F' => or_zret E' F' dL_cut_154 (Nat.le_of_ble_eq_true rfl) (Nat.le_of_ble_eq_true rfl) (bi_nar false) (hk _ (Nat.le_trans (Nat.le_refl _) hz1)))
  refine or_iload_n E rfl dL_cut_40 ?_
  refine or_bipush (v := nI 20) E rfl dL_cut_41 ?_
  refine or_icmp_eq 60 E dL_cut_43 rfl (fun q43 => ?_) (fun q43 => ?_)
  · replace hb40 := ite_p (P := fun r_ : Bool => b40 = r_) q43 hb40
    exact or_lv _ rfl (J40t hb40)
  · replace hb40 := ite_n (P := fun r_ : Bool => b40 = r_) q43 hb40
    refine or_iload E rfl dL_cut_46 ?_
    refine or_iload_n E rfl dL_cut_48 ?_
    refine or_icmp_le 60 E dL_cut_49 rfl (fun q49 => ?_) (fun q49 => ?_)
    · replace hb40 := ite_p (P := fun r_ : Bool => b40 = r_) q49 hb40
      exact or_lv _ rfl (J40t hb40)
    · replace hb40 := ite_n (P := fun r_ : Bool => b40 = r_) q49 hb40
      refine or_aload_n E rfl dL_cut_52 ?_
      refine or_iload_n E rfl dL_cut_53 ?_
      refine or_fV1r (cA_stateOf (Z := Z)  h_x (by subst hr1; exact hQ.1.1.1) (by subst hr1; exact hQ.1.2)) E G F lk_120_157 dL_cut_54 h_x.1 rfl rfl (by decide) (by decide) ⟨(Nat.le_of_ble_eq_true rfl), (Nat.le_of_ble_eq_true rfl)⟩ (Nat.le_of_ble_eq_true rfl) (fun _ => ?_) (fun h => absurd h (Nat.lt_irrefl 0))
      refine or_if_eq 91 E dL_cut_57 rfl (fun q57 => ?_) (fun q57 => ?_)
      · replace hb40 := ite_p (P := fun r_ : Bool => b40 = r_) q57 hb40
        exact or_lv _ rfl (J40f hb40)
      · replace hb40 := ite_n (P := fun r_ : Bool => b40 = r_) q57 hb40
        exact or_lv _ rfl (J40t hb40)
