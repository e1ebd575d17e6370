theorem lk_7_125 : ow_lv RX7 125 yX5_isWord cX5_isWord 3 (some .boolean) 1 := ⟨ow_T_in 475 (by decide +kernel) (by decide +kernel), ow_T_in 476 (by decide +kernel) (by decide +kernel), ow_T_in 477 (by decide +kernel) (by decide +kernel), ow_T_in 8 (by decide +kernel) (by decide +kernel), ow_T_in 478 (by decide +kernel) (by decide +kernel), ⟨by decide +kernel, by decide +kernel, by decide +kernel⟩⟩
theorem wt_2277 : Cond.fieldLink "LowWaterAuction$Parser" 180 "LowWaterAuction$Verb" "word" "Ljava/lang/String;" ∈ ow_T := ow_T_in 2277 (by decide +kernel) (by decide +kernel)
def Q_takeWord (p : Nat) (w : Nat) (I : ow_I) : Bool × ow_I :=
  if U_isWord (p + 1) w I then lt (U_advance (p + 1) I) (fun (I1 : ow_I) => (true, I1)) else lt (Q_fail p (nI 1) I) (fun (r2 : Bool × ow_I) => (r2.1, r2.2))
set_option maxRecDepth 100000 in
set_option maxHeartbeats 400000 in
theorem cQ_takeWord {Z : Nat → Nat} {S : Nat → Option ow_Sh} {I : ow_I} {V : Nat → Nat → Value} {z : Nat} {p : Nat} {w : Nat} (h_p : ps_S S p) (h_w : st_S S w) (hi : in_R (I (p + 1))) : ow_Cx Z yX7_takeWord cX7_takeWord 2 (some .boolean) 5 0 0 [.ref p, .ref (Z w)] (S, I, V, z) (ox_s S V z 0 (some (.int (bi ((Q_takeWord p w I).1)))) ((Q_takeWord p w I).2)) := by
  refine ow_Cx.off rfl (Nat.le_of_ble_eq_true rfl) (fun X K E G F hk => ?_)
  have E : ow_E X RX7 cX7_takeWord 2 (ow_rm 5 0 0) := E
  refine or_lv [(0, .ref p), (1, .ref (Z w))] rfl ?_
  try dsimp only [Q_takeWord] at hk
  refine or_aload_n E rfl dX7_takeWord_0 ?_
  refine ot_getC E fl_7_12 dX7_takeWord_1 h_p.1 rfl ?_
  refine or_aload_n E rfl dX7_takeWord_4 ?_
  refine or_fV1r (cU_isWord (Z := Z) (w := w) h_p.2.1 h_w hi.2.1.1 hi.2.1.2 hi.2.2.1 hi.2.2.2) E G F lk_7_125 dX7_takeWord_5 h_p.2.1.1 rfl rfl (by decide) (by decide) ⟨(Nat.le_of_ble_eq_true rfl), (Nat.le_of_ble_eq_true rfl)⟩ (Nat.le_of_ble_eq_true rfl) (fun _ => ?_) (fun h => absurd h (Nat.lt_irrefl 0))
  refine or_if_neZ 17 E dX7_takeWord_8 rfl (fun q8 => ?_) (fun q8 => ?_)
  · replace hk := ite_p (P := fun r : Bool × ow_I => ox_e K S V z 0 (some (.int (bi ((r).1)))) ((r).2)) q8 hk
    refine or_aload_n E rfl dX7_takeWord_17 ?_
    refine ot_getC E fl_7_12 dX7_takeWord_18 h_p.1 rfl ?_
    refine or_cV0v (cU_advance  h_p.2.1 hi.1.1 hi.1.2 hi.2.2.1 hi.2.2.2) E lk_7_65 dX7_takeWord_21 h_p.2.1.1 rfl rfl (by decide) (by decide) ⟨(Nat.le_of_ble_eq_true rfl), (Nat.le_of_ble_eq_true rfl)⟩ (Nat.le_of_ble_eq_true rfl) ?_
    obtain ⟨I1, hI1⟩ : ∃ y_ : ow_I, y_ = U_advance (p + 1) I := ⟨_, rfl⟩
    replace hk := lt_k (P := fun r : Bool × ow_I => ox_e K S V z 0 (some (.int (bi ((r).1)))) ((r).2)) hI1 hk
    refine or_nmI hI1 ?_
    refine or_iconst (v := nI 1) E rfl dX7_takeWord_24 ?_
    try dsimp only at hk
    exact or_xr E F (fun X' E' F' => or_zret E' F' dX7_takeWord_25 (Nat.le_of_ble_eq_true rfl) (Nat.le_of_ble_eq_true rfl) (bi_nar true) (hk.1 rfl))
  · replace hk := ite_n (P := fun r : Bool × ow_I => ox_e K S V z 0 (some (.int (bi ((r).1)))) ((r).2)) (bz_neg q8) hk
    refine or_aload_n E rfl dX7_takeWord_11 ?_
    refine or_iconst (v := nI 1) E rfl dX7_takeWord_12 ?_
    refine or_cV1r (cQ_fail  h_p ) E lk_7_54 dX7_takeWord_13 h_p.1 rfl rfl (by decide) (by decide) ⟨(Nat.le_of_ble_eq_true rfl), (Nat.le_of_ble_eq_true rfl)⟩ (Nat.le_of_ble_eq_true rfl) ?_
    obtain ⟨r2, hr2⟩ : ∃ y_ : Bool × ow_I, y_ = Q_fail p (nI 1) I := ⟨_, rfl⟩
    replace hk := lt_k (P := fun r : Bool × ow_I => ox_e K S V z 0 (some (.int (bi ((r).1)))) ((r).2)) hr2 hk
    refine or_nmZ hr2 ?_
    try dsimp only at hk
    exact or_xr E F (fun X' E' F' => or_zret E' F' dX7_takeWord_16 (Nat.le_of_ble_eq_true rfl) (Nat.le_of_ble_eq_true rfl) (bi_nar _) (hk.1 rfl))
def Q_verbHere_L2 (p : Nat) : Nat → ow_I → Nat → Nat
  | 0, I, _ => default
  | n + 1, I, i => if 6 ≤ i then 6 else if U_isWord (p + 1) (3 + i) I then i else Q_verbHere_L2 p n I (i + 1)
def Q_verbHere (p : Nat) (I : ow_I) : Nat :=
  Q_verbHere_L2 p 7 I 0
set_option maxRecDepth 100000 in
set_option maxHeartbeats 400000 in
theorem cQ_verbHere {Z : Nat → Nat} {S : Nat → Option ow_Sh} {I : ow_I} {V : Nat → Nat → Value} {z : Nat} {p : Nat} (h_p : ps_S S p) (hi : in_R (I (p + 1))) : ow_Cx Z yX7_verbHere cX7_verbHere 2 (some (.object "LowWaterAuction$Verb")) 5 0 0 [.ref p] (S, I, V, z) (ox_s S V z 0 (some (gl_vv Z (Q_verbHere p I))) I) := by
  refine ow_Cx.off rfl (Nat.le_of_ble_eq_true rfl) (fun X K E G F hk => ?_)
  have E : ow_E X RX7 cX7_verbHere 2 (ow_rm 5 0 0) := E
  refine or_lv [(0, .ref p)] rfl ?_
  have L2 : ∀ (n : Nat) (I : ow_I) (i : Nat) (hi : in_R (I (p + 1))) (hn : i ≤ 6) (hm : 6 - i < n) (hk : ox_e K S V z 0 (some (gl_vv Z (Q_verbHere_L2 p n I i))) I), ow_W X 0 0 (S, I, V, z) 2 [(0, .ref p), (1, .int (nI i))] [] := by
    intro n
    induction n with
    | zero => intro I i hi hn hm; omega
    | succ n ih =>
      intro I i hi hn hm hk
      dsimp only [Q_verbHere_L2] at hk
      refine or_iload_n E rfl dX7_verbHere_2 ?_
      refine or_gsN E (og_3 G 0 rfl) (og_15 G) dX7_verbHere_3 ?_
      refine or_glen E (og_8 G) dX7_verbHere_6 ?_
      refine or_icmp_geN 40 E dX7_verbHere_7 rfl (by omega) (by omega) (fun q7 => ?_) (fun q7 => ?_)
      · replace hk := ite_p (P := fun r : Nat => ox_e K S V z 0 (some (gl_vv Z (r))) I) q7 hk
        refine or_null E dX7_verbHere_40 ?_
        exact or_xr E F (fun X' E' F' => or_aret E' F' (Or.inl ⟨_, rfl⟩) (Or.inl rfl) dX7_verbHere_41 (Nat.le_of_ble_eq_true rfl) (Nat.le_of_ble_eq_true rfl) (hk.1 rfl))
      · replace hk := ite_n (P := fun r : Nat => ox_e K S V z 0 (some (gl_vv Z (r))) I) q7 hk
        refine or_aload_n E rfl dX7_verbHere_10 ?_
        refine ot_getC E fl_7_12 dX7_verbHere_11 h_p.1 rfl ?_
        refine or_gsN E (og_3 G 0 rfl) (og_15 G) dX7_verbHere_14 ?_
        refine or_iload_n E rfl dX7_verbHere_17 ?_
        refine or_gaa (j := i) E (og_8 G) (by omega) (by decide) dX7_verbHere_18 ?_
        refine or_gf E (og_vw (og_2 G (by omega))) wt_2277 dX7_verbHere_19 ?_
        refine or_fV1r (cU_isWord (Z := Z) (w := (3 + i)) h_p.2.1 (og_a (by omega)) hi.2.1.1 hi.2.1.2 hi.2.2.1 hi.2.2.2) E G F lk_7_125 dX7_verbHere_22 h_p.2.1.1 rfl rfl (by decide) (by decide) ⟨(Nat.le_of_ble_eq_true rfl), (Nat.le_of_ble_eq_true rfl)⟩ (Nat.le_of_ble_eq_true rfl) (fun _ => ?_) (fun h => absurd h (Nat.lt_irrefl 0))
        refine or_if_eqZ 34 E dX7_verbHere_25 rfl (fun q25 => ?_) (fun q25 => ?_)
        · replace hk := ite_n (P := fun r : Nat => ox_e K S V z 0 (some (gl_vv Z (r))) I) (bz_neg q25) hk
          refine or_iincN (c := 1) E dX7_verbHere_34 rfl rfl (by decide) ?_
          refine or_goto 2 E dX7_verbHere_37 rfl ?_
          refine or_lv _ ?_ (ih _ _ hi (by omega) (by omega) hk)
          rfl
        · replace hk := ite_p (P := fun r : Nat => ox_e K S V z 0 (some (gl_vv Z (r))) I) q25 hk
          refine or_gsN E (og_3 G 0 rfl) (og_15 G) dX7_verbHere_28 ?_
          refine or_iload_n E rfl dX7_verbHere_31 ?_
          refine or_gaa (j := i) E (og_8 G) (by omega) (by decide) dX7_verbHere_32 ?_
          exact or_xr E F (fun X' E' F' => or_aret E' F' (Or.inl ⟨_, rfl⟩) (Or.inr ⟨_, rfl⟩) dX7_verbHere_33 (Nat.le_of_ble_eq_true rfl) (Nat.le_of_ble_eq_true rfl) (by have h9 := (hk.1 rfl); rw [gl_vl (by omega)] at h9; exact h9))
  try dsimp only [Q_verbHere] at hk
  refine or_iconst (v := nI 0) E rfl dX7_verbHere_0 ?_
  refine or_istore_n E dX7_verbHere_1 (by decide) ?_
  refine or_lv _ ?_ (L2 7 _ _ hi (by decide) (by decide) hk)
  rfl
