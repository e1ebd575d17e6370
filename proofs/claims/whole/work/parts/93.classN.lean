theorem fl_6_198 : ow_fl RX6 198 3 0 := ⟨_, rfl, by decide, ow_T_in 297 (by decide +kernel) (by decide +kernel), ow_ok3⟩
theorem fl_6_209 : ow_fl RX6 209 3 1 := ⟨_, rfl, by decide, ow_T_in 299 (by decide +kernel) (by decide +kernel), ow_ok3⟩
theorem fl_6_218 : ow_fl RX6 218 3 2 := ⟨_, rfl, by decide, ow_T_in 301 (by decide +kernel) (by decide +kernel), ow_ok3⟩
theorem fl_6_231 : ow_fl RX6 231 3 3 := ⟨_, rfl, by decide, ow_T_in 304 (by decide +kernel) (by decide +kernel), ow_ok3⟩
theorem fl_6_232 : ow_fl RX6 232 3 4 := ⟨_, rfl, by decide, ow_T_in 306 (by decide +kernel) (by decide +kernel), ow_ok3⟩
theorem lk_6_215 : ow_lv RX6 215 yX6_letPass cX6_letPass 4 (some .int) 1 := ⟨ow_T_in 1181 (by decide +kernel) (by decide +kernel), ow_T_in 1182 (by decide +kernel) (by decide +kernel), ow_T_in 1183 (by decide +kernel) (by decide +kernel), ow_T_in 2 (by decide +kernel) (by decide +kernel), ow_T_in 1184 (by decide +kernel) (by decide +kernel), ⟨by decide +kernel, by decide +kernel, by decide +kernel⟩⟩
theorem lk_6_221 : ow_lv RX6 221 yX6_cut cX6_cut 7 (some .int) 2 := ⟨ow_T_in 1218 (by decide +kernel) (by decide +kernel), ow_T_in 1219 (by decide +kernel) (by decide +kernel), ow_T_in 1220 (by decide +kernel) (by decide +kernel), ow_T_in 2 (by decide +kernel) (by decide +kernel), ow_T_in 1221 (by decide +kernel) (by decide +kernel), ⟨by decide +kernel, by decide +kernel, by decide +kernel⟩⟩
theorem lk_6_224 : ow_lv RX6 224 yX6_putCoins cX6_putCoins 4 none 2 := ⟨ow_T_in 1241 (by decide +kernel) (by decide +kernel), ow_T_in 1242 (by decide +kernel) (by decide +kernel), ow_T_in 1243 (by decide +kernel) (by decide +kernel), ow_T_in 2 (by decide +kernel) (by decide +kernel), ow_T_in 1244 (by decide +kernel) (by decide +kernel), ⟨by decide +kernel, by decide +kernel, by decide +kernel⟩⟩
theorem lk_6_228 : ow_lv RX6 228 yX6_takeAway cX6_takeAway 2 none 1 := ⟨ow_T_in 1247 (by decide +kernel) (by decide +kernel), ow_T_in 1248 (by decide +kernel) (by decide +kernel), ow_T_in 1249 (by decide +kernel) (by decide +kernel), ow_T_in 2 (by decide +kernel) (by decide +kernel), ow_T_in 1250 (by decide +kernel) (by decide +kernel), ⟨by decide +kernel, by decide +kernel, by decide +kernel⟩⟩
theorem wt_1175 : Cond.fieldLink "LowWaterAuction$Market" 193 "LowWaterAuction$1" "$SwitchMap$LowWaterAuction$Verb" "[I" ∈ ow_T := ow_T_in 1175 (by decide +kernel) (by decide +kernel)
theorem lu_6_204 : ow_lu RX6 204 ⟨"LowWaterAuction$Verb", "ordinal", "()I"⟩ yJx29ce0_ordinal_8abf5 cJx29ce0_ordinal_8abf5 1 (some .int) 0 := ⟨ow_T_in 1176 (by decide +kernel) (by decide +kernel), ow_T_in 1157 (by decide +kernel) (by decide +kernel), ow_T_in 1159 (by decide +kernel) (by decide +kernel), ow_T_in 1160 (by decide +kernel) (by decide +kernel), ow_T_in 10 (by decide +kernel) (by decide +kernel), ow_T_in 1161 (by decide +kernel) (by decide +kernel), rfl, by decide +kernel, by decide +kernel, by decide +kernel⟩
def K_execute (a : Nat) (c : Nat) (j : Nat) (I : ow_I) : Bool × ow_I :=
  if nI (gl_sm j) = nI (1 + 0) then if K_hasBuyer a (I c 1) I then if K_refusal a (I c 1) I = 0 then lt (K_takeNod a (I c 1) I) (fun (I1 : ow_I) => (true, I1)) else (false, I) else (false, I) else if nI (gl_sm j) = nI (1 + 1) then lt (K_letPass a (tn (I c 1)) I) (fun (r2 : Int32 × ow_I) => (true, r2.2)) else if nI (gl_sm j) = nI (1 + 2) then lt (K_cut a (I c 1) (I c 2) I) (fun (r3 : Int32 × ow_I) => if r3.1 = (-1) then (false, r3.2) else (true, r3.2)) else if nI (gl_sm j) = nI (1 + 3) then lt (K_putCoins a (I c 1) (I c 2) I) (fun (I4 : ow_I) => (true, I4)) else if nI (gl_sm j) = nI (1 + 4) then if K_isWaiting a (I c 1) I then lt (K_takeAway a (I c 1) I) (fun (I5 : ow_I) => (true, I5)) else (false, I) else lt (K_takeBarrel a (I c 1) (c + 1) 0 (tn (I c 4)) I) (fun (r6 : Int32 × ow_I) => if r6.1 = (-1) then (false, r6.2) else (true, r6.2))
set_option maxRecDepth 100000 in
set_option maxHeartbeats 400000 in
theorem cK_execute {Z : Nat → Nat} {S : Nat → Option ow_Sh} {I : ow_I} {V : Nat → Nat → Value} {z : Nat} {a : Nat} {c : Nat} {j : Nat} (h_a : mk_S S a) (h_c : cm_S S c) (hL : ∀ n, k_V a (k_it a n I)) (hv : V c 0 = .ref (Z (40 + j))) (hj : j < 6) (h1 : 0 ≤ I c 1) (h4 : 0 ≤ I c 4) : ow_Cx Z yX6_execute cX6_execute 2 (some .boolean) 5 0 0 [.ref a, .ref c] (S, I, V, z) (ox_s S V z 0 (some (.int (bi ((K_execute a c j I).1)))) ((K_execute a c j I).2)) := by
  refine ow_Cx.off rfl (Nat.le_of_ble_eq_true rfl) (fun X K E G F hk => ?_)
  have E : ow_E X RX6 cX6_execute 2 (ow_rm 5 0 0) := E
  refine or_lv [(0, .ref a), (1, .ref c)] rfl ?_
  have hV : k_V a I := hL 0
  try dsimp only [K_execute] at hk
  refine or_gs E (og_3 G 1 rfl) wt_1175 dX6_execute_0 ?_
  refine or_aload_n E rfl dX6_execute_3 ?_
  refine ot_getV E fl_6_198 dX6_execute_4 h_c.1 rfl ?_
  rw [hv]
  refine or_gU0r (cjx29ce0_ordinal_8abf5 (Z := Z) (b := j) hj) E G F lu_6_204 dX6_execute_7 (og_vo (og_2 G hj)) (by decide) (by decide) ⟨(Nat.le_of_ble_eq_true rfl), (Nat.le_of_ble_eq_true rfl)⟩ (Nat.le_of_ble_eq_true rfl) (fun _ => ?_) (fun h => absurd h (Nat.lt_irrefl 0))
  refine or_gia (j := j) E (og_9 G) hj (by decide) dX6_execute_10 ?_
  refine or_tab5 (lo := 1) 44 78 89 111 125 148 E dX6_execute_11 (by decide) rfl rfl rfl rfl rfl rfl (fun q11_0 => ?_) (fun q11_0 q11_1 => ?_) (fun q11_0 q11_1 q11_2 => ?_) (fun q11_0 q11_1 q11_2 q11_3 => ?_) (fun q11_0 q11_1 q11_2 q11_3 q11_4 => ?_) (fun q11_0 q11_1 q11_2 q11_3 q11_4 => ?_)
  · replace hk := ite_p (P := fun r : Bool × ow_I => ox_e K S V z 0 (some (.int (bi ((r).1)))) ((r).2)) q11_0 hk
    refine or_aload_n E rfl dX6_execute_44 ?_
    refine or_aload_n E rfl dX6_execute_45 ?_
    refine ot_getI E fl_6_209 dX6_execute_46 h_c.1 rfl ?_
    refine or_cV1r (cK_hasBuyer  h_a ) E lk_6_156 dX6_execute_49 h_a.1 rfl rfl (by decide) (by decide) ⟨(Nat.le_of_ble_eq_true rfl), (Nat.le_of_ble_eq_true rfl)⟩ (Nat.le_of_ble_eq_true rfl) ?_
    refine or_if_eqZ 66 E dX6_execute_52 rfl (fun q52 => ?_) (fun q52 => ?_)
    · replace hk := ite_n (P := fun r : Bool × ow_I => ox_e K S V z 0 (some (.int (bi ((r).1)))) ((r).2)) (bz_neg q52) hk
      refine or_iconst (v := nI 0) E rfl dX6_execute_66 ?_
      try dsimp only at hk
      exact or_xr E F (fun X' E' F' => or_zret E' F' dX6_execute_67 (Nat.le_of_ble_eq_true rfl) (Nat.le_of_ble_eq_true rfl) (bi_nar false) (hk.1 rfl))
    · replace hk := ite_p (P := fun r : Bool × ow_I => ox_e K S V z 0 (some (.int (bi ((r).1)))) ((r).2)) q52 hk
      refine or_aload_n E rfl dX6_execute_55 ?_
      refine or_aload_n E rfl dX6_execute_56 ?_
      refine ot_getI E fl_6_209 dX6_execute_57 h_c.1 rfl ?_
      refine or_cV1r (cK_refusal  h_a hV) E lk_6_181 dX6_execute_60 h_a.1 rfl rfl (by decide) (by decide) ⟨(Nat.le_of_ble_eq_true rfl), (Nat.le_of_ble_eq_true rfl)⟩ (Nat.le_of_ble_eq_true rfl) ?_
      refine or_if_eq 68 E dX6_execute_63 rfl (fun q63 => ?_) (fun q63 => ?_)
      · replace hk := ite_p (P := fun r : Bool × ow_I => ox_e K S V z 0 (some (.int (bi ((r).1)))) ((r).2)) q63 hk
        refine or_aload_n E rfl dX6_execute_68 ?_
        refine or_aload_n E rfl dX6_execute_69 ?_
        refine ot_getI E fl_6_209 dX6_execute_70 h_c.1 rfl ?_
        refine or_cV1v (cK_takeNod  h_a hV) E lk_6_212 dX6_execute_73 h_a.1 rfl rfl (by decide) (by decide) ⟨(Nat.le_of_ble_eq_true rfl), (Nat.le_of_ble_eq_true rfl)⟩ (Nat.le_of_ble_eq_true rfl) ?_
        obtain ⟨I1, hI1⟩ : ∃ y_ : ow_I, y_ = K_takeNod a (I c 1) I := ⟨_, rfl⟩
        replace hk := lt_k (P := fun r : Bool × ow_I => ox_e K S V z 0 (some (.int (bi ((r).1)))) ((r).2)) hI1 hk
        refine or_nmI hI1 ?_
        refine or_iconst (v := nI 1) E rfl dX6_execute_76 ?_
        try dsimp only at hk
        exact or_xr E F (fun X' E' F' => or_zret E' F' dX6_execute_77 (Nat.le_of_ble_eq_true rfl) (Nat.le_of_ble_eq_true rfl) (bi_nar true) (hk.1 rfl))
      · replace hk := ite_n (P := fun r : Bool × ow_I => ox_e K S V z 0 (some (.int (bi ((r).1)))) ((r).2)) q63 hk
        refine or_iconst (v := nI 0) E rfl dX6_execute_66 ?_
        try dsimp only at hk
        exact or_xr E F (fun X' E' F' => or_zret E' F' dX6_execute_67 (Nat.le_of_ble_eq_true rfl) (Nat.le_of_ble_eq_true rfl) (bi_nar false) (hk.1 rfl))
  · replace hk := ite_n (P := fun r : Bool × ow_I => ox_e K S V z 0 (some (.int (bi ((r).1)))) ((r).2)) q11_0 hk; replace hk := ite_p (P := fun r : Bool × ow_I => ox_e K S V z 0 (some (.int (bi ((r).1)))) ((r).2)) q11_1 hk
    refine or_aload_n E rfl dX6_execute_78 ?_
    refine or_aload_n E rfl dX6_execute_79 ?_
    refine ot_getI E fl_6_209 dX6_execute_80 h_c.1 rfl ?_
    refine or_top (nI_tn h1).symm ?_
    refine or_cV1r (cK_letPass  h_a (tn_lt _) hL) E lk_6_215 dX6_execute_83 h_a.1 rfl rfl (by decide) (by decide) ⟨(Nat.le_of_ble_eq_true rfl), (Nat.le_of_ble_eq_true rfl)⟩ (Nat.le_of_ble_eq_true rfl) ?_
    obtain ⟨r2, hr2⟩ : ∃ y_ : Int32 × ow_I, y_ = K_letPass a (tn (I c 1)) I := ⟨_, rfl⟩
    replace hk := lt_k (P := fun r : Bool × ow_I => ox_e K S V z 0 (some (.int (bi ((r).1)))) ((r).2)) hr2 hk
    refine or_nmJ hr2 ?_
    refine or_pop E rfl dX6_execute_86 ?_
    refine or_iconst (v := nI 1) E rfl dX6_execute_87 ?_
    try dsimp only at hk
    exact or_xr E F (fun X' E' F' => or_zret E' F' dX6_execute_88 (Nat.le_of_ble_eq_true rfl) (Nat.le_of_ble_eq_true rfl) (bi_nar true) (hk.1 rfl))
  · replace hk := ite_n (P := fun r : Bool × ow_I => ox_e K S V z 0 (some (.int (bi ((r).1)))) ((r).2)) q11_0 hk; replace hk := ite_n (P := fun r : Bool × ow_I => ox_e K S V z 0 (some (.int (bi ((r).1)))) ((r).2)) q11_1 hk; replace hk := ite_p (P := fun r : Bool × ow_I => ox_e K S V z 0 (some (.int (bi ((r).1)))) ((r).2)) q11_2 hk
    refine or_aload_n E rfl dX6_execute_89 ?_
    refine or_aload_n E rfl dX6_execute_90 ?_
    refine ot_getI E fl_6_209 dX6_execute_91 h_c.1 rfl ?_
    refine or_aload_n E rfl dX6_execute_94 ?_
    refine ot_getI E fl_6_218 dX6_execute_95 h_c.1 rfl ?_
    refine or_cV2r (cK_cut  h_a hV) E lk_6_221 dX6_execute_98 h_a.1 rfl rfl (by decide) (by decide) ⟨(Nat.le_of_ble_eq_true rfl), (Nat.le_of_ble_eq_true rfl)⟩ (Nat.le_of_ble_eq_true rfl) ?_
    obtain ⟨r3, hr3⟩ : ∃ y_ : Int32 × ow_I, y_ = K_cut a (I c 1) (I c 2) I := ⟨_, rfl⟩
    replace hk := lt_k (P := fun r : Bool × ow_I => ox_e K S V z 0 (some (.int (bi ((r).1)))) ((r).2)) hr3 hk
    refine or_nmJ hr3 ?_
    refine or_iconst (v := -1) E rfl dX6_execute_101 ?_
    refine or_icmp_eq 109 E dX6_execute_102 rfl (fun q102 => ?_) (fun q102 => ?_)
    · replace hk := ite_p (P := fun r : Bool × ow_I => ox_e K S V z 0 (some (.int (bi ((r).1)))) ((r).2)) q102 hk
      refine or_iconst (v := nI 0) E rfl dX6_execute_109 ?_
      try dsimp only at hk
      exact or_xr E F (fun X' E' F' => or_zret E' F' dX6_execute_110 (Nat.le_of_ble_eq_true rfl) (Nat.le_of_ble_eq_true rfl) (bi_nar false) (hk.1 rfl))
    · replace hk := ite_n (P := fun r : Bool × ow_I => ox_e K S V z 0 (some (.int (bi ((r).1)))) ((r).2)) q102 hk
      refine or_iconst (v := nI 1) E rfl dX6_execute_105 ?_
      refine or_goto 110 E dX6_execute_106 rfl ?_
      try dsimp only at hk
      exact or_xr E F (fun X' E' F' => or_zret E' F' dX6_execute_110 (Nat.le_of_ble_eq_true rfl) (Nat.le_of_ble_eq_true rfl) (bi_nar true) (hk.1 rfl))
  · replace hk := ite_n (P := fun r : Bool × ow_I => ox_e K S V z 0 (some (.int (bi ((r).1)))) ((r).2)) q11_0 hk; replace hk := ite_n (P := fun r : Bool × ow_I => ox_e K S V z 0 (some (.int (bi ((r).1)))) ((r).2)) q11_1 hk; replace hk := ite_n (P := fun r : Bool × ow_I => ox_e K S V z 0 (some (.int (bi ((r).1)))) ((r).2)) q11_2 hk; replace hk := ite_p (P := fun r : Bool × ow_I => ox_e K S V z 0 (some (.int (bi ((r).1)))) ((r).2)) q11_3 hk
    refine or_aload_n E rfl dX6_execute_111 ?_
    refine or_aload_n E rfl dX6_execute_112 ?_
    refine ot_getI E fl_6_209 dX6_execute_113 h_c.1 rfl ?_
    refine or_aload_n E rfl dX6_execute_116 ?_
    refine ot_getI E fl_6_218 dX6_execute_117 h_c.1 rfl ?_
    refine or_cV2v (cK_putCoins  h_a hV) E lk_6_224 dX6_execute_120 h_a.1 rfl rfl (by decide) (by decide) ⟨(Nat.le_of_ble_eq_true rfl), (Nat.le_of_ble_eq_true rfl)⟩ (Nat.le_of_ble_eq_true rfl) ?_
    obtain ⟨I4, hI4⟩ : ∃ y_ : ow_I, y_ = K_putCoins a (I c 1) (I c 2) I := ⟨_, rfl⟩
    replace hk := lt_k (P := fun r : Bool × ow_I => ox_e K S V z 0 (some (.int (bi ((r).1)))) ((r).2)) hI4 hk
    refine or_nmI hI4 ?_
    refine or_iconst (v := nI 1) E rfl dX6_execute_123 ?_
    try dsimp only at hk
    exact or_xr E F (fun X' E' F' => or_zret E' F' dX6_execute_124 (Nat.le_of_ble_eq_true rfl) (Nat.le_of_ble_eq_true rfl) (bi_nar true) (hk.1 rfl))
  · replace hk := ite_n (P := fun r : Bool × ow_I => ox_e K S V z 0 (some (.int (bi ((r).1)))) ((r).2)) q11_0 hk; replace hk := ite_n (P := fun r : Bool × ow_I => ox_e K S V z 0 (some (.int (bi ((r).1)))) ((r).2)) q11_1 hk; replace hk := ite_n (P := fun r : Bool × ow_I => ox_e K S V z 0 (some (.int (bi ((r).1)))) ((r).2)) q11_2 hk; replace hk := ite_n (P := fun r : Bool × ow_I => ox_e K S V z 0 (some (.int (bi ((r).1)))) ((r).2)) q11_3 hk; replace hk := ite_p (P := fun r : Bool × ow_I => ox_e K S V z 0 (some (.int (bi ((r).1)))) ((r).2)) q11_4 hk
    refine or_aload_n E rfl dX6_execute_125 ?_
    refine or_aload_n E rfl dX6_execute_126 ?_
    refine ot_getI E fl_6_209 dX6_execute_127 h_c.1 rfl ?_
    refine or_cV1r (cK_isWaiting  h_a hV) E lk_6_105 dX6_execute_130 h_a.1 rfl rfl (by decide) (by decide) ⟨(Nat.le_of_ble_eq_true rfl), (Nat.le_of_ble_eq_true rfl)⟩ (Nat.le_of_ble_eq_true rfl) ?_
    refine or_if_neZ 138 E dX6_execute_133 rfl (fun q133 => ?_) (fun q133 => ?_)
    · replace hk := ite_p (P := fun r : Bool × ow_I => ox_e K S V z 0 (some (.int (bi ((r).1)))) ((r).2)) q133 hk
      refine or_aload_n E rfl dX6_execute_138 ?_
      refine or_aload_n E rfl dX6_execute_139 ?_
      refine ot_getI E fl_6_209 dX6_execute_140 h_c.1 rfl ?_
      refine or_cV1v (cK_takeAway  h_a hV) E lk_6_228 dX6_execute_143 h_a.1 rfl rfl (by decide) (by decide) ⟨(Nat.le_of_ble_eq_true rfl), (Nat.le_of_ble_eq_true rfl)⟩ (Nat.le_of_ble_eq_true rfl) ?_
      obtain ⟨I5, hI5⟩ : ∃ y_ : ow_I, y_ = K_takeAway a (I c 1) I := ⟨_, rfl⟩
      replace hk := lt_k (P := fun r : Bool × ow_I => ox_e K S V z 0 (some (.int (bi ((r).1)))) ((r).2)) hI5 hk
      refine or_nmI hI5 ?_
      refine or_iconst (v := nI 1) E rfl dX6_execute_146 ?_
      try dsimp only at hk
      exact or_xr E F (fun X' E' F' => or_zret E' F' dX6_execute_147 (Nat.le_of_ble_eq_true rfl) (Nat.le_of_ble_eq_true rfl) (bi_nar true) (hk.1 rfl))
    · replace hk := ite_n (P := fun r : Bool × ow_I => ox_e K S V z 0 (some (.int (bi ((r).1)))) ((r).2)) (bz_neg q133) hk
      refine or_iconst (v := nI 0) E rfl dX6_execute_136 ?_
      try dsimp only at hk
      exact or_xr E F (fun X' E' F' => or_zret E' F' dX6_execute_137 (Nat.le_of_ble_eq_true rfl) (Nat.le_of_ble_eq_true rfl) (bi_nar false) (hk.1 rfl))
  · replace hk := ite_n (P := fun r : Bool × ow_I => ox_e K S V z 0 (some (.int (bi ((r).1)))) ((r).2)) q11_0 hk; replace hk := ite_n (P := fun r : Bool × ow_I => ox_e K S V z 0 (some (.int (bi ((r).1)))) ((r).2)) q11_1 hk; replace hk := ite_n (P := fun r : Bool × ow_I => ox_e K S V z 0 (some (.int (bi ((r).1)))) ((r).2)) q11_2 hk; replace hk := ite_n (P := fun r : Bool × ow_I => ox_e K S V z 0 (some (.int (bi ((r).1)))) ((r).2)) q11_3 hk; replace hk := ite_n (P := fun r : Bool × ow_I => ox_e K S V z 0 (some (.int (bi ((r).1)))) ((r).2)) q11_4 hk
    refine or_aload_n E rfl dX6_execute_148 ?_
    refine or_aload_n E rfl dX6_execute_149 ?_
    refine ot_getI E fl_6_209 dX6_execute_150 h_c.1 rfl ?_
    refine or_aload_n E rfl dX6_execute_153 ?_
    refine ot_getC E fl_6_231 dX6_execute_154 h_c.1 rfl ?_
    refine or_iconst (v := nI 0) E rfl dX6_execute_157 ?_
    refine or_aload_n E rfl dX6_execute_158 ?_
    refine ot_getI E fl_6_232 dX6_execute_159 h_c.1 rfl ?_
    refine or_top (nI_tn h4).symm ?_
    refine or_cV4r (cK_takeBarrel  h_a h_c.2 hV (by decide) (tn_lt _)) E lk_6_146 dX6_execute_162 h_a.1 rfl rfl (by decide) (by decide) ⟨(Nat.le_of_ble_eq_true rfl), (Nat.le_of_ble_eq_true rfl)⟩ (Nat.le_of_ble_eq_true rfl) ?_
    obtain ⟨r6, hr6⟩ : ∃ y_ : Int32 × ow_I, y_ = K_takeBarrel a (I c 1) (c + 1) 0 (tn (I c 4)) I := ⟨_, rfl⟩
    replace hk := lt_k (P := fun r : Bool × ow_I => ox_e K S V z 0 (some (.int (bi ((r).1)))) ((r).2)) hr6 hk
    refine or_nmJ hr6 ?_
    refine or_iconst (v := -1) E rfl dX6_execute_165 ?_
    refine or_icmp_eq 173 E dX6_execute_166 rfl (fun q166 => ?_) (fun q166 => ?_)
    · replace hk := ite_p (P := fun r : Bool × ow_I => ox_e K S V z 0 (some (.int (bi ((r).1)))) ((r).2)) q166 hk
      refine or_iconst (v := nI 0) E rfl dX6_execute_173 ?_
      try dsimp only at hk
      exact or_xr E F (fun X' E' F' => or_zret E' F' dX6_execute_174 (Nat.le_of_ble_eq_true rfl) (Nat.le_of_ble_eq_true rfl) (bi_nar false) (hk.1 rfl))
    · replace hk := ite_n (P := fun r : Bool × ow_I => ox_e K S V z 0 (some (.int (bi ((r).1)))) ((r).2)) q166 hk
      refine or_iconst (v := nI 1) E rfl dX6_execute_169 ?_
      refine or_goto 174 E dX6_execute_170 rfl ?_
      try dsimp only at hk
      exact or_xr E F (fun X' E' F' => or_zret E' F' dX6_execute_174 (Nat.le_of_ble_eq_true rfl) (Nat.le_of_ble_eq_true rfl) (bi_nar true) (hk.1 rfl))
