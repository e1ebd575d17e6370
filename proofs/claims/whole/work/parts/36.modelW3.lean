theorem lk_11_265 : ow_lv RX11 265 yX11_failsAtCommand cX11_failsAtCommand 4 (some .boolean) 0 := ⟨ow_T_in 1821 (by decide +kernel) (by decide +kernel), ow_T_in 1823 (by decide +kernel) (by decide +kernel), ow_T_sel 66 (by decide +kernel) (by decide +kernel), ow_T_in 19 (by decide +kernel) (by decide +kernel), ow_T_in 1824 (by decide +kernel) (by decide +kernel), ⟨by decide +kernel, by decide +kernel, by decide +kernel⟩⟩
def M_failsAtScript_L6 (m : Nat) : Nat → ow_I → Nat → Bool × ow_I
  | 0, I, _ => (default, I)
  | n + 1, I, i => if 500 < i then (false, I) else if I m 9 = 0 then (false, I) else lt (M_failsAtCommand m I) (fun (r2 : Bool × ow_I) => if r2.1 then (true, r2.2) else M_failsAtScript_L6 m n r2.2 (i + 1))
def M_failsAtScript (m : Nat) (I : ow_I) : Bool × ow_I :=
  lt (M_beginText m I) (fun (I1 : ow_I) => M_failsAtScript_L6 m 502 I1 0)
set_option maxRecDepth 100000 in
set_option maxHeartbeats 400000 in
theorem cM_failsAtScript {S : Nat → Option ow_Sh} {I : ow_I} {V : Nat → Nat → Value} {z : Nat} {m : Nat} (h_m : md_S S m) (hl : 0 ≤ I m 5) (hlb : tn (I m 5) ≤ 500) : ow_Cf yX11_failsAtScript cX11_failsAtScript 2 (some .boolean) 8 [.ref m] (S, I, V, z) (some (.int (bi ((M_failsAtScript m I).1)))) (S, (M_failsAtScript m I).2, V, z) := by
  refine ow_Cf.of rfl (Nat.le_of_ble_eq_true rfl) (fun X K E F hk => ?_)
  have E : ow_E X RX11 cX11_failsAtScript 2 (ow_rm 8 0 0) := E
  refine or_lv [(0, .ref m)] rfl ?_
  have L6 : ∀ (n : Nat) (I : ow_I) (i : Nat) (hw : md_W m I) (hc : 0 ≤ I m 15) (hcb : tn (I m 15) ≤ 20) (hi : i ≤ 501) (hm : 501 - i < n) (hk : K (some (.int (bi ((M_failsAtScript_L6 m n I i).1)))) (S, (M_failsAtScript_L6 m n I i).2, V, z)), ow_W X 0 0 (S, I, V, z) 6 [(0, .ref m), (1, .int (nI i))] [] := by
    intro n
    induction n with
    | zero => intro I i hw hc hcb hi hm; omega
    | succ n ih =>
      intro I i hw hc hcb hi hm hk
      dsimp only [M_failsAtScript_L6] at hk
      refine or_iload_n E rfl dX11_failsAtScript_6 ?_
      refine or_sipush (v := nI 500) E rfl dX11_failsAtScript_7 ?_
      refine or_icmp_gtN 35 E dX11_failsAtScript_10 rfl (by omega) (by omega) (fun q10 => ?_) (fun q10 => ?_)
      · replace hk := ite_p (P := fun r : Bool × ow_I => K (some (.int (bi ((r).1)))) (S, (r).2, V, z)) q10 hk
        refine or_iconst (v := nI 0) E rfl dX11_failsAtScript_35 ?_
        try dsimp only at hk
        exact or_zret E F dX11_failsAtScript_36 (Nat.le_refl _) (Nat.le_refl _) (bi_nar false) hk
      · replace hk := ite_n (P := fun r : Bool × ow_I => K (some (.int (bi ((r).1)))) (S, (r).2, V, z)) q10 hk
        refine or_aload_n E rfl dX11_failsAtScript_13 ?_
        refine ot_getI E fl_11_196 dX11_failsAtScript_14 h_m.1 rfl ?_
        refine or_if_eq 35 E dX11_failsAtScript_17 rfl (fun q17 => ?_) (fun q17 => ?_)
        · replace hk := ite_p (P := fun r : Bool × ow_I => K (some (.int (bi ((r).1)))) (S, (r).2, V, z)) q17 hk
          refine or_iconst (v := nI 0) E rfl dX11_failsAtScript_35 ?_
          try dsimp only at hk
          exact or_zret E F dX11_failsAtScript_36 (Nat.le_refl _) (Nat.le_refl _) (bi_nar false) hk
        · replace hk := ite_n (P := fun r : Bool × ow_I => K (some (.int (bi ((r).1)))) (S, (r).2, V, z)) q17 hk
          refine or_aload_n E rfl dX11_failsAtScript_20 ?_
          refine or_cV0r (cM_failsAtCommand  h_m hw hc hcb) E lk_11_265 dX11_failsAtScript_21 h_m.1 rfl rfl (by decide) (by decide) ⟨Nat.le_refl _, Nat.le_refl _⟩ (Nat.le_of_ble_eq_true rfl) ?_
          obtain ⟨r2, hr2⟩ : ∃ y_ : Bool × ow_I, y_ = M_failsAtCommand m I := ⟨_, rfl⟩
          replace hk := lt_k (P := fun r : Bool × ow_I => K (some (.int (bi ((r).1)))) (S, (r).2, V, z)) hr2 hk
          refine or_nmZ hr2 ?_
          refine or_if_eqZ 29 E dX11_failsAtScript_24 rfl (fun q24 => ?_) (fun q24 => ?_)
          · replace hk := ite_n (P := fun r : Bool × ow_I => K (some (.int (bi ((r).1)))) (S, (r).2, V, z)) (bz_neg q24) hk
            refine or_iincN (c := 1) E dX11_failsAtScript_29 rfl rfl (by decide) ?_
            refine or_goto 6 E dX11_failsAtScript_32 rfl ?_
            refine or_lv _ ?_ (ih _ _ (by subst hr2; exact (W_cmd hw)) (by subst hr2; exact (cmd_15 hc hcb q24).1) (by subst hr2; have := cmd_15 hc hcb q24; rw [this.2.1]; exact this.2.2) (by subst hr2; omega) (by omega) hk)
            rfl
          · replace hk := ite_p (P := fun r : Bool × ow_I => K (some (.int (bi ((r).1)))) (S, (r).2, V, z)) q24 hk
            refine or_iconst (v := nI 1) E rfl dX11_failsAtScript_27 ?_
            try dsimp only at hk
            exact or_zret E F dX11_failsAtScript_28 (Nat.le_refl _) (Nat.le_refl _) (bi_nar true) hk
  dsimp only [M_failsAtScript] at hk
  refine or_aload_n E rfl dX11_failsAtScript_0 ?_
  refine or_cV0v (cM_beginText  h_m hl hlb) E lk_11_238 dX11_failsAtScript_1 h_m.1 rfl rfl (by decide) (by decide) ⟨Nat.le_refl _, Nat.le_refl _⟩ (Nat.le_of_ble_eq_true rfl) ?_
  obtain ⟨I1, hI1⟩ : ∃ y_ : ow_I, y_ = M_beginText m I := ⟨_, rfl⟩
  replace hk := lt_k (P := fun r : Bool × ow_I => K (some (.int (bi ((r).1)))) (S, (r).2, V, z)) hI1 hk
  refine or_nmI hI1 ?_
  refine or_iconst (v := nI 0) E rfl dX11_failsAtScript_4 ?_
  refine or_istore_n E dX11_failsAtScript_5 (by decide) ?_
  refine or_lv _ ?_ (L6 502 _ _ (by subst hI1; exact (W_tx hl hlb)) (by subst hI1; rw [fr_tx15]; decide) (by subst hI1; rw [fr_tx15]; decide) (by decide) (by decide) hk)
  rfl
def M_isBarrel (m : Nat) (b : Int32) (I : ow_I) : Bool :=
  if b < 0 then false else if I (m + 1) 7 ≤ b then false else true
set_option maxRecDepth 100000 in
set_option maxHeartbeats 400000 in
theorem cM_isBarrel {S : Nat → Option ow_Sh} {I : ow_I} {V : Nat → Nat → Value} {z : Nat} {m : Nat} {b : Int32} (h_m : md_S S m)  : ow_Cf yX11_isBarrel cX11_isBarrel 2 (some .boolean) 0 [.ref m, .int b] (S, I, V, z) (some (.int (bi (M_isBarrel m b I)))) (S, I, V, z) := by
  refine ow_Cf.of rfl (Nat.le_of_ble_eq_true rfl) (fun X K E F hk => ?_)
  have E : ow_E X RX11 cX11_isBarrel 2 (ow_rm 0 0 0) := E
  refine or_lv [(0, .ref m), (1, .int b)] rfl ?_
  dsimp only [M_isBarrel] at hk
  refine or_iload_n E rfl dX11_isBarrel_0 ?_
  refine or_if_lt 19 E dX11_isBarrel_1 rfl (fun q1 => ?_) (fun q1 => ?_)
  · replace hk := ite_p (P := fun r : Bool => K (some (.int (bi (r)))) (S, I, V, z)) q1 hk
    refine or_iconst (v := nI 0) E rfl dX11_isBarrel_19 ?_
    exact or_zret E F dX11_isBarrel_20 (Nat.le_refl _) (Nat.le_refl _) (bi_nar false) hk
  · replace hk := ite_n (P := fun r : Bool => K (some (.int (bi (r)))) (S, I, V, z)) q1 hk
    refine or_iload_n E rfl dX11_isBarrel_4 ?_
    refine or_aload_n E rfl dX11_isBarrel_5 ?_
    refine ot_getC E fl_11_7 dX11_isBarrel_6 h_m.1 rfl ?_
    refine or_bipush (v := nI 7) E rfl dX11_isBarrel_9 ?_
    refine ot_iald (j := 7) E dX11_isBarrel_11 h_m.2.1 rfl rfl (by omega) (Nat.le_of_ble_eq_true rfl) ?_
    refine or_icmp_ge 19 E dX11_isBarrel_12 rfl (fun q12 => ?_) (fun q12 => ?_)
    · replace hk := ite_p (P := fun r : Bool => K (some (.int (bi (r)))) (S, I, V, z)) q12 hk
      refine or_iconst (v := nI 0) E rfl dX11_isBarrel_19 ?_
      exact or_zret E F dX11_isBarrel_20 (Nat.le_refl _) (Nat.le_refl _) (bi_nar false) hk
    · replace hk := ite_n (P := fun r : Bool => K (some (.int (bi (r)))) (S, I, V, z)) q12 hk
      refine or_iconst (v := nI 1) E rfl dX11_isBarrel_15 ?_
      refine or_goto 20 E dX11_isBarrel_16 rfl ?_
      exact or_zret E F dX11_isBarrel_20 (Nat.le_refl _) (Nat.le_refl _) (bi_nar true) hk
