theorem lk_7_125 : ow_lv RX7 125 yX5_isWord cX5_isWord 3 (some .boolean) 1 := ⟨ow_T_in 456 (by decide +kernel) (by decide +kernel), ow_T_in 457 (by decide +kernel) (by decide +kernel), ow_T_in 458 (by decide +kernel) (by decide +kernel), ow_T_in 8 (by decide +kernel) (by decide +kernel), ow_T_in 459 (by decide +kernel) (by decide +kernel), ⟨by decide +kernel, by decide +kernel, by decide +kernel⟩⟩
def Q_takeWord (p : Nat) (w : Nat) (I : ow_I) : Bool × ow_I :=
  if U_isWord (p + 1) w I then lt (U_advance (p + 1) I) (fun (I1 : ow_I) => (true, I1)) else lt (Q_fail p (nI 1) I) (fun (r2 : Bool × ow_I) => (r2.1, r2.2))
set_option maxRecDepth 100000 in
set_option maxHeartbeats 400000 in
theorem cQ_takeWord {Z : Nat → Nat} {S : Nat → Option ow_Sh} {I : ow_I} {V : Nat → Nat → Value} {z : Nat} {p : Nat} {w : Nat} (h_p : ps_S S p) (h_w : st_S S w) (hi : in_R (I (p + 1))) : ow_Cx Z yX7_takeWord cX7_takeWord 2 (some .boolean) 5 0 0 [.ref p, .ref (Z w)] (S, I, V, z) (ox_s S V z 0 (some (.int (bi ((Q_takeWord p w I).1)))) ((Q_takeWord p w I).2)) := by
  refine ow_Cx.off rfl (Nat.le_of_ble_eq_true rfl) (fun X K E G F hk => ?_)
  have E : ow_E X RX7 cX7_takeWord 2 (ow_rm 5 0 0) := E
  refine or_lv [(0, .ref p), (1, .ref (Z w))] rfl ?_
  try dsimp only [Q_takeWord] at hk
  refine or_aload_n E rfl dX7_takeWord_0 ?_
  refine ot_getC E fl_7_12 dX7_takeWord_1 h_p.1 rfl ?_
  refine or_aload_n E rfl dX7_takeWord_4 ?_
  refine or_fV1r (cU_isWord (Z := Z) (w := w) h_p.2.1 h_w hi.2.1.1 hi.2.1.2 hi.2.2.1 hi.2.2.2) E G F lk_7_125 dX7_takeWord_5 h_p.2.1.1 rfl rfl (by decide) (by decide) ⟨(Nat.le_of_ble_eq_true rfl), (Nat.le_of_ble_eq_true rfl)⟩ (Nat.le_of_ble_eq_true rfl) (fun _ => ?_) (fun h => absurd h (Nat.lt_irrefl 0))
  refine or_if_neZ 17 E dX7_takeWord_8 rfl (fun q8 => ?_) (fun q8 => ?_)
  · replace hk := ite_p (P := fun r : Bool × ow_I => ox_e K S V z 0 (some (.int (bi ((r).1)))) ((r).2)) q8 hk
    refine or_aload_n E rfl dX7_takeWord_17 ?_
    refine ot_getC E fl_7_12 dX7_takeWord_18 h_p.1 rfl ?_
    refine or_cV0v (cU_advance  h_p.2.1 hi.1.1 hi.1.2 hi.2.2.1 hi.2.2.2) E lk_7_65 dX7_takeWord_21 h_p.2.1.1 rfl rfl (by decide) (by decide) ⟨(Nat.le_of_ble_eq_true rfl), (Nat.le_of_ble_eq_true rfl)⟩ (Nat.le_of_ble_eq_true rfl) ?_
    obtain ⟨I1, hI1⟩ : ∃ y_ : ow_I, y_ = U_advance (p + 1) I := ⟨_, rfl⟩
    replace hk := lt_k (P := fun r : Bool × ow_I => ox_e K S V z 0 (some (.int (bi ((r).1)))) ((r).2)) hI1 hk
    refine or_nmI hI1 ?_
    refine or_iconst (v := nI 1) E rfl dX7_takeWord_24 ?_
    try dsimp only at hk
    exact or_xr E F (fun X' E' F' => or_zret E' F' dX7_takeWord_25 (Nat.le_of_ble_eq_true rfl) (Nat.le_of_ble_eq_true rfl) (bi_nar true) (hk.1 rfl))
  · replace hk := ite_n (P := fun r : Bool × ow_I => ox_e K S V z 0 (some (.int (bi ((r).1)))) ((r).2)) (bz_neg q8) hk
    refine or_aload_n E rfl dX7_takeWord_11 ?_
    refine or_iconst (v := nI 1) E rfl dX7_takeWord_12 ?_
    refine or_cV1r (cQ_fail  h_p ) E lk_7_54 dX7_takeWord_13 h_p.1 rfl rfl (by decide) (by decide) ⟨(Nat.le_of_ble_eq_true rfl), (Nat.le_of_ble_eq_true rfl)⟩ (Nat.le_of_ble_eq_true rfl) ?_
    obtain ⟨r2, hr2⟩ : ∃ y_ : Bool × ow_I, y_ = Q_fail p (nI 1) I := ⟨_, rfl⟩
    replace hk := lt_k (P := fun r : Bool × ow_I => ox_e K S V z 0 (some (.int (bi ((r).1)))) ((r).2)) hr2 hk
    refine or_nmZ hr2 ?_
    try dsimp only at hk
    exact or_xr E F (fun X' E' F' => or_zret E' F' dX7_takeWord_16 (Nat.le_of_ble_eq_true rfl) (Nat.le_of_ble_eq_true rfl) (bi_nar _) (hk.1 rfl))
