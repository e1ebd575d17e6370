set_option maxRecDepth 100000
theorem lm_120_85 : ow_lm RX120 85 Lib.Math.max.name Lib.Math.max.code := ⟨ow_T_in 1103 (by decide +kernel) (by decide +kernel), ow_T_in 524 (by decide +kernel) (by decide +kernel), ow_T_in 18 (by decide +kernel) (by decide +kernel), ow_T_in 525 (by decide +kernel) (by decide +kernel)⟩
theorem lk_120_79 : ow_lv RX120 79 yX10_eels cX10_eels 2 (some .int) 1 := ⟨ow_T_in 935 (by decide +kernel) (by decide +kernel), ow_T_in 936 (by decide +kernel) (by decide +kernel), ow_T_in 937 (by decide +kernel) (by decide +kernel), ow_T_in 1 (by decide +kernel) (by decide +kernel), ow_T_in 938 (by decide +kernel) (by decide +kernel), ⟨by decide +kernel, by decide +kernel, by decide +kernel⟩⟩
theorem lk_120_82 : ow_lv RX120 82 yX10_length cX10_length 4 (some .int) 2 := ⟨ow_T_in 1168 (by decide +kernel) (by decide +kernel), ow_T_in 1169 (by decide +kernel) (by decide +kernel), ow_T_in 1170 (by decide +kernel) (by decide +kernel), ow_T_in 1 (by decide +kernel) (by decide +kernel), ow_T_in 1171 (by decide +kernel) (by decide +kernel), ⟨by decide +kernel, by decide +kernel, by decide +kernel⟩⟩
theorem lk_120_90 : ow_lv RX120 90 yX10_factor cX10_factor 2 (some .int) 1 := ⟨ow_T_in 1173 (by decide +kernel) (by decide +kernel), ow_T_in 1174 (by decide +kernel) (by decide +kernel), ow_T_in 1175 (by decide +kernel) (by decide +kernel), ow_T_in 1 (by decide +kernel) (by decide +kernel), ow_T_in 1176 (by decide +kernel) (by decide +kernel), ⟨by decide +kernel, by decide +kernel, by decide +kernel⟩⟩
theorem lk_120_93 : ow_lv RX120 93 yX10_style cX10_style 2 (some .int) 1 := ⟨ow_T_in 1134 (by decide +kernel) (by decide +kernel), ow_T_in 1135 (by decide +kernel) (by decide +kernel), ow_T_in 1136 (by decide +kernel) (by decide +kernel), ow_T_in 1 (by decide +kernel) (by decide +kernel), ow_T_in 1137 (by decide +kernel) (by decide +kernel), ⟨by decide +kernel, by decide +kernel, by decide +kernel⟩⟩
theorem wd_1179 : Cond.constantDouble RX120 100 (4617315517961601024 : UInt64) ∈ ow_T := ow_T_in 1179 (by decide +kernel) (by decide +kernel)
theorem wd_1177 : Cond.constantDouble RX120 96 (4636737291354636288 : UInt64) ∈ ow_T := ow_T_in 1177 (by decide +kernel) (by decide +kernel)
theorem wd_1178 : Cond.constantDouble RX120 98 (4621819117588971520 : UInt64) ∈ ow_T := ow_T_in 1178 (by decide +kernel) (by decide +kernel)
def L_open (m : Nat) (n : Int32) (I : ow_I) : Bool :=
  if I m 1 ≤ n - n / (I m 0) * (I m 0) then false else true
set_option maxRecDepth 100000 in
set_option maxHeartbeats 400000 in
theorem tL_open {Z : Nat → Nat} {S : Nat → Option ow_Sh} {I : ow_I} {V : Nat → Nat → Value} {z : Nat} {m : Nat} {n : Int32} (h_m : m4_S S m) (hp : ¬ I m 0 = 0) : ow_Cx Z yL_open cL_open 2 (some .boolean) 0 0 0 [.ref m, .int n] (S, I, V, z) (ox_s S V z 0 (some (.int (bi (L_open m n I)))) I) := by
  refine ow_Cx.off rfl (Nat.le_of_ble_eq_true rfl) (fun X K E G F hk => ?_)
  have E : ow_E X RX120 cL_open 2 (ow_rm 0 0 0) := E
  refine or_lv [(0, .ref m), (1, .int n)] rfl ?_
  try dsimp only [L_open] at hk
  refine or_iload_n E rfl dL_open_0 ?_
  refine or_aload_n E rfl dL_open_1 ?_
  refine or_iconst (v := nI 0) E rfl dL_open_2 ?_
  refine ot_iald (j := 0) E dL_open_3 h_m rfl rfl (by omega) (Nat.le_of_ble_eq_true rfl) ?_
  refine or_irem E hp dL_open_4 ?_
  refine or_aload_n E rfl dL_open_5 ?_
  refine or_iconst (v := nI 1) E rfl dL_open_6 ?_
  refine ot_iald (j := 1) E dL_open_7 h_m rfl rfl (by omega) (Nat.le_of_ble_eq_true rfl) ?_
  refine or_icmp_ge 15 E dL_open_8 rfl (fun q8 => ?_) (fun q8 => ?_)
  · replace hk := ite_p (P := fun r : Bool => ox_e K S V z 0 (some (.int (bi (r)))) I) q8 hk
    refine or_iconst (v := nI 0) E rfl dL_open_15 ?_
    exact or_xr E F (fun X' E' F' => or_zret E' F' dL_open_16 (Nat.le_of_ble_eq_true rfl) (Nat.le_of_ble_eq_true rfl) (bi_nar false) (hk.1 rfl))
  · replace hk := ite_n (P := fun r : Bool => ox_e K S V z 0 (some (.int (bi (r)))) I) q8 hk
    refine or_iconst (v := nI 1) E rfl dL_open_11 ?_
    refine or_goto 16 E dL_open_12 rfl ?_
    exact or_xr E F (fun X' E' F' => or_zret E' F' dL_open_16 (Nat.le_of_ble_eq_true rfl) (Nat.le_of_ble_eq_true rfl) (bi_nar true) (hk.1 rfl))
def L_cost (m : Nat) (p : Int32) (I : ow_I) : Int32 :=
  p + ((p * (I m 3)) / (nI 100))
set_option maxRecDepth 100000 in
set_option maxHeartbeats 400000 in
theorem tL_cost {Z : Nat → Nat} {S : Nat → Option ow_Sh} {I : ow_I} {V : Nat → Nat → Value} {z : Nat} {m : Nat} {p : Int32} (h_m : m4_S S m)  : ow_Cx Z yL_cost cL_cost 2 (some .int) 0 0 0 [.ref m, .int p] (S, I, V, z) (ox_s S V z 0 (some (.int (L_cost m p I))) I) := by
  refine ow_Cx.off rfl (Nat.le_of_ble_eq_true rfl) (fun X K E G F hk => ?_)
  have E : ow_E X RX120 cL_cost 2 (ow_rm 0 0 0) := E
  refine or_lv [(0, .ref m), (1, .int p)] rfl ?_
  try dsimp only [L_cost] at hk
  refine or_iload_n E rfl dL_cost_0 ?_
  refine or_iload_n E rfl dL_cost_1 ?_
  refine or_aload_n E rfl dL_cost_2 ?_
  refine or_iconst (v := nI 3) E rfl dL_cost_3 ?_
  refine ot_iald (j := 3) E dL_cost_4 h_m rfl rfl (by omega) (Nat.le_of_ble_eq_true rfl) ?_
  refine or_imul E dL_cost_5 ?_
  refine or_bipush (v := nI 100) E rfl dL_cost_6 ?_
  refine or_idiv E (by decide) dL_cost_8 ?_
  refine or_iadd E dL_cost_9 ?_
  exact or_xr E F (fun X' E' F' => or_iret E' F' dL_cost_10 (Nat.le_of_ble_eq_true rfl) (Nat.le_of_ble_eq_true rfl) (hk.1 rfl))
def L_worth_L18 (x : Nat) (y : Int32) (b : Int32) : Nat → ow_I → Int32 → Int32 → Nat → Nat → Int32 × Int32 × Nat
  | 0, I, _, _, _, _ => (0, 0, 0)
  | n + 1, I, su, mo, gr, i => if tn (A_eels x b I) ≤ i then (su, mo, gr) else if A_length x b (nI i) I < nI 60 then L_worth_L18 x y b n I (su + (A_length x b (nI i) I)) (i_max mo (A_length x b (nI i) I)) gr (i + 1) else L_worth_L18 x y b n I (su + (A_length x b (nI i) I)) (i_max mo (A_length x b (nI i) I)) (gr + 1) (i + 1)
def L_worth (x : Nat) (y : Int32) (b : Int32) (I : ow_I) : UInt64 :=
  lt (L_worth_L18 x y b 10 I (nI 0) (nI 0) 0 0) (fun (r1 : Int32 × Int32 × Nat) => if A_style x y I = nI 1 then FP.ddiv (FP.i2d ((A_factor x y I) * r1.1)) ((4636737291354636288 : UInt64)) else if A_style x y I = nI 2 then FP.ddiv (FP.i2d ((A_factor x y I) * (A_eels x b I))) ((4621819117588971520 : UInt64)) else if A_style x y I = nI 3 then FP.ddiv (FP.i2d (((A_factor x y I) * r1.2.1) * (A_eels x b I))) ((4636737291354636288 : UInt64)) else if A_style x y I = nI 4 then FP.ddiv (FP.i2d ((A_factor x y I) * (nI r1.2.2))) ((4617315517961601024 : UInt64)) else FP.dconst0)
set_option maxRecDepth 100000 in
set_option maxHeartbeats 400000 in
theorem tL_worth {Z : Nat → Nat} {S : Nat → Option ow_Sh} {I : ow_I} {V : Nat → Nat → Value} {z : Nat} {x : Nat} {y : Int32} {b : Int32} (h_x : au_S S x) (hX : au_V x I) (hy : 0 ≤ y ∧ tn y < tn (I (x + 1) 8)) (hb : 0 ≤ b ∧ tn b < tn (I (x + 1) 10)) : ow_Cx Z yL_worth cL_worth 9 (some .double) 4 0 0 [.ref x, .int y, .int b] (S, I, V, z) (ox_s S V z 0 (some (.double (L_worth x y b I))) I) := by
  refine ow_Cx.off rfl (Nat.le_of_ble_eq_true rfl) (fun X K E G F hk => ?_)
  have E : ow_E X RX120 cL_worth 9 (ow_rm 4 0 0) := E
  refine or_lv [(0, .ref x), (1, .int y), (2, .int b)] rfl ?_
  have hV := hX.1
  have L18 : ∀ (n : Nat) (I : ow_I) (su : Int32) (mo : Int32) (gr : Nat) (i : Nat) (hX : au_V x I) (hb : 0 ≤ b ∧ tn b < tn (I (x + 1) 10)) (hi : i ≤ 9) (hm : 9 - i < n) (hk : ow_W X 0 0 (S, I, V, z) 71 [(0, .ref x), (1, .int y), (2, .int b), (3, .int (A_eels x b I)), (4, .int ((L_worth_L18 x y b n I su mo gr i).1)), (5, .int ((L_worth_L18 x y b n I su mo gr i).2.1)), (6, .int (nI ((L_worth_L18 x y b n I su mo gr i).2.2)))] []), ow_W X 0 0 (S, I, V, z) 18 [(0, .ref x), (1, .int y), (2, .int b), (3, .int (A_eels x b I)), (4, .int su), (5, .int mo), (6, .int (nI gr)), (7, .int (nI i))] [] := by
    intro n
    induction n with
    | zero => intro I su mo gr i hX hb hi hm; omega
    | succ n ih =>
      intro I su mo gr i hX hb hi hm hk
      dsimp only [L_worth_L18] at hk
      have hV := hX.1
      have h9 := (hX.1.2.2.2.2.2.2 (tn b) (lt20 hX.1 hb)).2
      refine or_iload E rfl dL_worth_18 ?_
      refine or_iload_n E rfl dL_worth_20 ?_
      refine or_top (nI_tn (hX.1.2.2.2.2.2.2 (tn b) (lt20 hX.1 hb)).1).symm ?_
      refine or_icmp_geN 71 E dL_worth_21 rfl (by omega) (by omega) (fun q21 => ?_) (fun q21 => ?_)
      · replace hk := ite_p (P := fun r : Int32 × Int32 × Nat => ow_W X 0 0 (S, I, V, z) 71 [(0, .ref x), (1, .int y), (2, .int b), (3, .int (A_eels x b I)), (4, .int r.1), (5, .int r.2.1), (6, .int (nI r.2.2))] []) q21 hk
        try dsimp only at hk
        exact or_lv _ rfl hk
      · replace hk := ite_n (P := fun r : Int32 × Int32 × Nat => ow_W X 0 0 (S, I, V, z) 71 [(0, .ref x), (1, .int y), (2, .int b), (3, .int (A_eels x b I)), (4, .int r.1), (5, .int r.2.1), (6, .int (nI r.2.2))] []) q21 hk
        refine or_iload E rfl dL_worth_24 ?_
        refine or_aload_n E rfl dL_worth_26 ?_
        refine or_iload_n E rfl dL_worth_27 ?_
        refine or_iload E rfl dL_worth_28 ?_
        refine or_fV2r (cA_length (Z := Z)  h_x hX hb (nI_ge0 (by omega)) (lt_e (hX.1.2.2.2.2.2.2 (tn b) (lt20 hX.1 hb)).1 (Nat.not_le.mp q21))) E G F lk_120_82 dL_worth_30 h_x.1 rfl rfl (by decide) (by decide) ⟨(Nat.le_of_ble_eq_true rfl), (Nat.le_of_ble_eq_true rfl)⟩ (Nat.le_of_ble_eq_true rfl) (fun _ => ?_) (fun h => absurd h (Nat.lt_irrefl 0))
        refine or_iadd E dL_worth_33 ?_
        refine or_istore E dL_worth_34 (by decide) ?_
        refine or_iload E rfl dL_worth_36 ?_
        refine or_aload_n E rfl dL_worth_38 ?_
        refine or_iload_n E rfl dL_worth_39 ?_
        refine or_iload E rfl dL_worth_40 ?_
        refine or_fV2r (cA_length (Z := Z)  h_x hX hb (nI_ge0 (by omega)) (lt_e (hX.1.2.2.2.2.2.2 (tn b) (lt20 hX.1 hb)).1 (Nat.not_le.mp q21))) E G F lk_120_82 dL_worth_42 h_x.1 rfl rfl (by decide) (by decide) ⟨(Nat.le_of_ble_eq_true rfl), (Nat.le_of_ble_eq_true rfl)⟩ (Nat.le_of_ble_eq_true rfl) (fun _ => ?_) (fun h => absurd h (Nat.lt_irrefl 0))
        refine or_mmax E lm_120_85 dL_worth_45 (Nat.le_of_ble_eq_true rfl) ⟨(Nat.le_of_ble_eq_true rfl), (Nat.le_of_ble_eq_true rfl)⟩ (Nat.le_of_ble_eq_true rfl) ?_
        refine or_istore E dL_worth_48 (by decide) ?_
        refine or_aload_n E rfl dL_worth_50 ?_
        refine or_iload_n E rfl dL_worth_51 ?_
        refine or_iload E rfl dL_worth_52 ?_
        refine or_fV2r (cA_length (Z := Z)  h_x hX hb (nI_ge0 (by omega)) (lt_e (hX.1.2.2.2.2.2.2 (tn b) (lt20 hX.1 hb)).1 (Nat.not_le.mp q21))) E G F lk_120_82 dL_worth_54 h_x.1 rfl rfl (by decide) (by decide) ⟨(Nat.le_of_ble_eq_true rfl), (Nat.le_of_ble_eq_true rfl)⟩ (Nat.le_of_ble_eq_true rfl) (fun _ => ?_) (fun h => absurd h (Nat.lt_irrefl 0))
        refine or_bipush (v := nI 60) E rfl dL_worth_57 ?_
        refine or_icmp_lt 65 E dL_worth_59 rfl (fun q59 => ?_) (fun q59 => ?_)
        · replace hk := ite_p (P := fun r : Int32 × Int32 × Nat => ow_W X 0 0 (S, I, V, z) 71 [(0, .ref x), (1, .int y), (2, .int b), (3, .int (A_eels x b I)), (4, .int r.1), (5, .int r.2.1), (6, .int (nI r.2.2))] []) q59 hk
          refine or_iincN (c := 1) E dL_worth_65 rfl rfl (by decide) ?_
          refine or_goto 18 E dL_worth_68 rfl ?_
          refine or_lv _ ?_ (ih _ _ _ _ _ hX hb (by have : i < tn (A_eels x b I) := Nat.not_le.mp q21; have : tn (A_eels x b I) ≤ 9 := h9; omega) (by omega) hk)
          rfl
        · replace hk := ite_n (P := fun r : Int32 × Int32 × Nat => ow_W X 0 0 (S, I, V, z) 71 [(0, .ref x), (1, .int y), (2, .int b), (3, .int (A_eels x b I)), (4, .int r.1), (5, .int r.2.1), (6, .int (nI r.2.2))] []) q59 hk
          refine or_iincN (c := 1) E dL_worth_62 rfl rfl (by decide) ?_
          refine or_iincN (c := 1) E dL_worth_65 rfl rfl (by decide) ?_
          refine or_goto 18 E dL_worth_68 rfl ?_
          refine or_lv _ ?_ (ih _ _ _ _ _ hX hb (by have : i < tn (A_eels x b I) := Nat.not_le.mp q21; have : tn (A_eels x b I) ≤ 9 := h9; omega) (by omega) hk)
          rfl
  try dsimp only [L_worth] at hk
  refine or_aload_n E rfl dL_worth_0 ?_
  refine or_iload_n E rfl dL_worth_1 ?_
  refine or_fV1r (cA_eels (Z := Z)  h_x hV hb) E G F lk_120_79 dL_worth_2 h_x.1 rfl rfl (by decide) (by decide) ⟨(Nat.le_of_ble_eq_true rfl), (Nat.le_of_ble_eq_true rfl)⟩ (Nat.le_of_ble_eq_true rfl) (fun _ => ?_) (fun h => absurd h (Nat.lt_irrefl 0))
  refine or_istore_n E dL_worth_5 (by decide) ?_
  refine or_iconst (v := nI 0) E rfl dL_worth_6 ?_
  refine or_istore E dL_worth_7 (by decide) ?_
  refine or_iconst (v := nI 0) E rfl dL_worth_9 ?_
  refine or_istore E dL_worth_10 (by decide) ?_
  refine or_iconst (v := nI 0) E rfl dL_worth_12 ?_
  refine or_istore E dL_worth_13 (by decide) ?_
  refine or_iconst (v := nI 0) E rfl dL_worth_15 ?_
  refine or_istore E dL_worth_16 (by decide) ?_
  refine or_lv _ ?_ (L18 10 _ (nI 0) (nI 0) 0 0 hX hb (by decide) (by decide) ?_)
  · rfl
  obtain ⟨r1, hr1⟩ : ∃ y_ : Int32 × Int32 × Nat, y_ = L_worth_L18 x y b 10 I (nI 0) (nI 0) 0 0 := ⟨_, rfl⟩
  replace hk := lt_k (P := fun r : UInt64 => ox_e K S V z 0 (some (.double (r))) I) hr1 hk
  rw [← hr1]
  refine or_aload_n E rfl dL_worth_71 ?_
  refine or_iload_n E rfl dL_worth_72 ?_
  refine or_fV1r (cA_factor (Z := Z)  h_x (by subst hr1; exact hV) (by subst hr1; exact hy)) E G F lk_120_90 dL_worth_73 h_x.1 rfl rfl (by decide) (by decide) ⟨(Nat.le_of_ble_eq_true rfl), (Nat.le_of_ble_eq_true rfl)⟩ (Nat.le_of_ble_eq_true rfl) (fun _ => ?_) (fun h => absurd h (Nat.lt_irrefl 0))
  refine or_istore E dL_worth_76 (by decide) ?_
  refine or_aload_n E rfl dL_worth_78 ?_
  refine or_iload_n E rfl dL_worth_79 ?_
  refine or_fV1r (cA_style (Z := Z)  h_x (by subst hr1; exact hV) (by subst hr1; exact hy)) E G F lk_120_93 dL_worth_80 h_x.1 rfl rfl (by decide) (by decide) ⟨(Nat.le_of_ble_eq_true rfl), (Nat.le_of_ble_eq_true rfl)⟩ (Nat.le_of_ble_eq_true rfl) (fun _ => ?_) (fun h => absurd h (Nat.lt_irrefl 0))
  refine or_istore E dL_worth_83 (by decide) ?_
  refine or_iload E rfl dL_worth_85 ?_
  refine or_iconst (v := nI 1) E rfl dL_worth_87 ?_
  refine or_icmp_ne 104 E dL_worth_88 rfl (fun q88 => ?_) (fun q88 => ?_)
  · replace hk := ite_n (P := fun r : UInt64 => ox_e K S V z 0 (some (.double (r))) I) q88 hk
    refine or_iload E rfl dL_worth_104 ?_
    refine or_iconst (v := nI 2) E rfl dL_worth_106 ?_
    refine or_icmp_ne 122 E dL_worth_107 rfl (fun q107 => ?_) (fun q107 => ?_)
    · replace hk := ite_n (P := fun r : UInt64 => ox_e K S V z 0 (some (.double (r))) I) q107 hk
      refine or_iload E rfl dL_worth_122 ?_
      refine or_iconst (v := nI 3) E rfl dL_worth_124 ?_
      refine or_icmp_ne 143 E dL_worth_125 rfl (fun q125 => ?_) (fun q125 => ?_)
      · replace hk := ite_n (P := fun r : UInt64 => ox_e K S V z 0 (some (.double (r))) I) q125 hk
        refine or_iload E rfl dL_worth_143 ?_
        refine or_iconst (v := nI 4) E rfl dL_worth_145 ?_
        refine or_icmp_ne 162 E dL_worth_146 rfl (fun q146 => ?_) (fun q146 => ?_)
        · replace hk := ite_n (P := fun r : UInt64 => ox_e K S V z 0 (some (.double (r))) I) q146 hk
          refine or_dconst0 E dL_worth_162 ?_
          exact or_xr E F (fun X' E' F' => or_dret E' F' dL_worth_163 (Nat.le_of_ble_eq_true rfl) (Nat.le_of_ble_eq_true rfl) (hk.1 rfl))
        · replace hk := ite_p (P := fun r : UInt64 => ox_e K S V z 0 (some (.double (r))) I) q146 hk
          refine or_iload E rfl dL_worth_149 ?_
          refine or_iload E rfl dL_worth_151 ?_
          refine or_imul E dL_worth_153 ?_
          refine or_i2d E dL_worth_154 ?_
          refine or_ldc2d (v := 4617315517961601024) E wd_1179 dL_worth_155 ?_
          refine or_ddiv E (by subst hr1; exact (fp_i2d_div5 _)) dL_worth_158 ?_
          refine or_goto 163 E dL_worth_159 rfl ?_
          exact or_xr E F (fun X' E' F' => or_dret E' F' dL_worth_163 (Nat.le_of_ble_eq_true rfl) (Nat.le_of_ble_eq_true rfl) (hk.1 rfl))
      · replace hk := ite_p (P := fun r : UInt64 => ox_e K S V z 0 (some (.double (r))) I) q125 hk
        refine or_iload E rfl dL_worth_128 ?_
        refine or_iload E rfl dL_worth_130 ?_
        refine or_imul E dL_worth_132 ?_
        refine or_iload_n E rfl dL_worth_133 ?_
        refine or_imul E dL_worth_134 ?_
        refine or_i2d E dL_worth_135 ?_
        refine or_ldc2d (v := 4636737291354636288) E wd_1177 dL_worth_136 ?_
        refine or_ddiv E (by subst hr1; exact (fp_i2d_div100 _)) dL_worth_139 ?_
        refine or_goto 163 E dL_worth_140 rfl ?_
        exact or_xr E F (fun X' E' F' => or_dret E' F' dL_worth_163 (Nat.le_of_ble_eq_true rfl) (Nat.le_of_ble_eq_true rfl) (hk.1 rfl))
    · replace hk := ite_p (P := fun r : UInt64 => ox_e K S V z 0 (some (.double (r))) I) q107 hk
      refine or_iload E rfl dL_worth_110 ?_
      refine or_iload_n E rfl dL_worth_112 ?_
      refine or_imul E dL_worth_113 ?_
      refine or_i2d E dL_worth_114 ?_
      refine or_ldc2d (v := 4621819117588971520) E wd_1178 dL_worth_115 ?_
      refine or_ddiv E (by subst hr1; exact (fp_i2d_div10 _)) dL_worth_118 ?_
      refine or_goto 163 E dL_worth_119 rfl ?_
      exact or_xr E F (fun X' E' F' => or_dret E' F' dL_worth_163 (Nat.le_of_ble_eq_true rfl) (Nat.le_of_ble_eq_true rfl) (hk.1 rfl))
  · replace hk := ite_p (P := fun r : UInt64 => ox_e K S V z 0 (some (.double (r))) I) q88 hk
    refine or_iload E rfl dL_worth_91 ?_
    refine or_iload E rfl dL_worth_93 ?_
    refine or_imul E dL_worth_95 ?_
    refine or_i2d E dL_worth_96 ?_
    refine or_ldc2d (v := 4636737291354636288) E wd_1177 dL_worth_97 ?_
    refine or_ddiv E (by subst hr1; exact (fp_i2d_div100 _)) dL_worth_100 ?_
    refine or_goto 163 E dL_worth_101 rfl ?_
    exact or_xr E F (fun X' E' F' => or_dret E' F' dL_worth_163 (Nat.le_of_ble_eq_true rfl) (Nat.le_of_ble_eq_true rfl) (hk.1 rfl))
