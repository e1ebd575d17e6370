theorem fl_7_20 : ow_fl RX7 20 7 1 := ⟨_, rfl, by decide, ow_T_in 320 (by decide +kernel) (by decide +kernel), ow_ok7⟩
theorem fl_7_58 : ow_fl RX7 58 7 3 := ⟨_, rfl, by decide, ow_T_in 323 (by decide +kernel) (by decide +kernel), ow_ok7⟩
theorem fw_7_3 : ∃ r : vw_C, ow_cl[7]? = some r ∧ (r.2.1 3).2.2.2 = false ∧ parseFieldDescriptor (r.2.1 3).2.2.1 = some .int := ⟨_, rfl, rfl, by decide +kernel⟩
theorem lk_7_61 : ow_lv RX7 61 yX7_verbHere cX7_verbHere 2 (some (.object "LowWaterAuction$Verb")) 0 := ⟨ow_T_in 1144 (by decide +kernel) (by decide +kernel), ow_T_in 1146 (by decide +kernel) (by decide +kernel), ow_T_sel 19 (by decide +kernel) (by decide +kernel), ow_T_in 7 (by decide +kernel) (by decide +kernel), ow_T_in 1147 (by decide +kernel) (by decide +kernel), ⟨by decide +kernel, by decide +kernel, by decide +kernel⟩⟩
theorem lk_7_72 : ow_lv RX7 72 yX7_readNumbers cX7_readNumbers 3 (some .boolean) 2 := ⟨ow_T_in 1150 (by decide +kernel) (by decide +kernel), ow_T_in 1152 (by decide +kernel) (by decide +kernel), ow_T_sel 20 (by decide +kernel) (by decide +kernel), ow_T_in 7 (by decide +kernel) (by decide +kernel), ow_T_in 1153 (by decide +kernel) (by decide +kernel), ⟨by decide +kernel, by decide +kernel, by decide +kernel⟩⟩
def Q_readScript_L11 (p : Nat) (b : Int32) : Nat → ow_I → Nat → Bool × ow_I
  | 0, I, _ => (false, I)
  | n + 1, I, i => if 20 < i then (true, I) else if I (p + 1) 2 = 0 then (true, I) else if Q_verbHere p I < 6 then if i = 20 then lt (Q_fail p (nI 3) I) (fun (r8 : Bool × ow_I) => (r8.1, r8.2)) else lt (U_advance (p + 1) I) (fun (I3 : ow_I) => lt (ow_u I3 (p + 6 + 2 * i) 0 (nI ((Q_verbHere p I)))) (fun (I4 : ow_I) => lt (Q_readNumbers p (p + 6 + 2 * i) b (Q_verbHere p I) I4) (fun (r5 : Bool × ow_I) => if r5.1 then lt (Q_takeSemicolon p r5.2) (fun (r6 : Bool × ow_I) => if r6.1 then lt (ow_u r6.2 p 3 (nI (i + 1))) (fun (I7 : ow_I) => Q_readScript_L11 p b n I7 (i + 1)) else (false, r6.2)) else (false, r5.2)))) else lt (Q_fail p (nI 1) I) (fun (r9 : Bool × ow_I) => (r9.1, r9.2))
def Q_readScript (p : Nat) (b : Int32) (I : ow_I) : Bool × ow_I :=
  lt (Q_begin p I) (fun (I1 : ow_I) => lt (ow_u I1 p 3 (nI 0)) (fun (I2 : ow_I) => Q_readScript_L11 p b 22 I2 0))
set_option maxRecDepth 100000 in
set_option maxHeartbeats 400000 in
theorem cQ_readScript {Z : Nat → Nat} {S : Nat → Option ow_Sh} {I : ow_I} {V : Nat → Nat → Value} {z : Nat} {p : Nat} {b : Int32} {V0 : Nat → Nat → Value} (h_p : ps_S S p) (hi : in_R (I (p + 1))) (hW : V = ve_f Z p I V0) : ow_Cx Z yX7_readScript cX7_readScript 4 (some .boolean) 6 0 0 [.ref p, .int b] (S, I, V, z) (ox_s S (ve_f Z p ((Q_readScript p b I).2) V0) z 0 (some (.int (bi ((Q_readScript p b I).1)))) ((Q_readScript p b I).2)) := by
  refine ow_Cx.off rfl (Nat.le_of_ble_eq_true rfl) (fun X K E G F hk => ?_)
  have E : ow_E X RX7 cX7_readScript 4 (ow_rm 6 0 0) := E
  refine or_lv [(0, .ref p), (1, .int b)] rfl ?_
  have L11 : ∀ (n : Nat) (I : ow_I) (V : Nat → Nat → Value) (i : Nat) (hi : in_R (I (p + 1))) (hW : V = ve_f Z p I V0) (hn : i ≤ 21) (hm : 21 - i < n) (hk : ox_e K S (ve_f Z p ((Q_readScript_L11 p b n I i).2) V0) z 0 (some (.int (bi ((Q_readScript_L11 p b n I i).1)))) ((Q_readScript_L11 p b n I i).2)), ow_W X 0 0 (S, I, V, z) 11 [(0, .ref p), (1, .int b), (2, .int (nI i))] [] := by
    intro n
    induction n with
    | zero => intro I V i hi hW hn hm; omega
    | succ n ih =>
      intro I V i hi hW hn hm hk
      dsimp only [Q_readScript_L11] at hk
      refine or_iload_n E rfl dX7_readScript_11 ?_
      refine or_bipush (v := nI 20) E rfl dX7_readScript_12 ?_
      refine or_icmp_gtN 107 E dX7_readScript_14 rfl (by omega) (by omega) (fun q14 => ?_) (fun q14 => ?_)
      · replace hk := ite_p (P := fun r : Bool × ow_I => ox_e K S (ve_f Z p ((r).2) V0) z 0 (some (.int (bi ((r).1)))) ((r).2)) q14 hk
        refine or_iconst (v := nI 1) E rfl dX7_readScript_107 ?_
        refine or_heap (ow_hV (V2 := (ve_f Z p I V0)) (hW.trans (ve_eq (fun k hk2 => by simp (disch := omega) only [rr_u, rr_ts, rr_qf, rn_c, rr_adv, rr_beg])).symm)) ?_
        try dsimp only at hk
        exact or_xr E F (fun X' E' F' => or_zret E' F' dX7_readScript_108 (Nat.le_of_ble_eq_true rfl) (Nat.le_of_ble_eq_true rfl) (bi_nar true) (hk.1 rfl))
      · replace hk := ite_n (P := fun r : Bool × ow_I => ox_e K S (ve_f Z p ((r).2) V0) z 0 (some (.int (bi ((r).1)))) ((r).2)) q14 hk
        refine or_aload_n E rfl dX7_readScript_17 ?_
        refine ot_getC E fl_7_12 dX7_readScript_18 h_p.1 rfl ?_
        refine ot_getI E fl_7_51 dX7_readScript_21 h_p.2.1.1 rfl ?_
        refine or_if_eq 107 E dX7_readScript_24 rfl (fun q24 => ?_) (fun q24 => ?_)
        · replace hk := ite_p (P := fun r : Bool × ow_I => ox_e K S (ve_f Z p ((r).2) V0) z 0 (some (.int (bi ((r).1)))) ((r).2)) q24 hk
          refine or_iconst (v := nI 1) E rfl dX7_readScript_107 ?_
          refine or_heap (ow_hV (V2 := (ve_f Z p I V0)) (hW.trans (ve_eq (fun k hk2 => by simp (disch := omega) only [rr_u, rr_ts, rr_qf, rn_c, rr_adv, rr_beg])).symm)) ?_
          try dsimp only at hk
          exact or_xr E F (fun X' E' F' => or_zret E' F' dX7_readScript_108 (Nat.le_of_ble_eq_true rfl) (Nat.le_of_ble_eq_true rfl) (bi_nar true) (hk.1 rfl))
        · replace hk := ite_n (P := fun r : Bool × ow_I => ox_e K S (ve_f Z p ((r).2) V0) z 0 (some (.int (bi ((r).1)))) ((r).2)) q24 hk
          refine or_aload_n E rfl dX7_readScript_27 ?_
          refine or_fV0r (cQ_verbHere (Z := Z)  h_p hi) E G F lk_7_61 dX7_readScript_28 h_p.1 rfl rfl (by decide) (by decide) ⟨(Nat.le_of_ble_eq_true rfl), (Nat.le_of_ble_eq_true rfl)⟩ (Nat.le_of_ble_eq_true rfl) (fun _ => ?_) (fun h => absurd h (Nat.lt_irrefl 0))
          rcases Nat.lt_or_ge (Q_verbHere p I) 6 with q28 | q28
          · rw [gl_vl q28]
            replace hk := ite_p (P := fun r : Bool × ow_I => ox_e K S (ve_f Z p ((r).2) V0) z 0 (some (.int (bi ((r).1)))) ((r).2)) q28 hk
            refine or_astore_n E dX7_readScript_31 (by decide) ?_
            refine or_aload_n E rfl dX7_readScript_32 ?_
            refine or_ifnonnull 42 E dX7_readScript_33 rfl ?_
            refine or_iload_n E rfl dX7_readScript_42 ?_
            refine or_bipush (v := nI 20) E rfl dX7_readScript_43 ?_
            refine or_icmp_neN 54 E dX7_readScript_45 rfl (by omega) (by omega) (fun q45 => ?_) (fun q45 => ?_)
            · replace hk := ite_n (P := fun r : Bool × ow_I => ox_e K S (ve_f Z p ((r).2) V0) z 0 (some (.int (bi ((r).1)))) ((r).2)) q45 hk
              refine or_aload_n E rfl dX7_readScript_54 ?_
              refine ot_getC E fl_7_12 dX7_readScript_55 h_p.1 rfl ?_
              refine or_cV0v (cU_advance  h_p.2.1 hi.1.1 hi.1.2 hi.2.2.1 hi.2.2.2) E lk_7_65 dX7_readScript_58 h_p.2.1.1 rfl rfl (by decide) (by decide) ⟨(Nat.le_of_ble_eq_true rfl), (Nat.le_of_ble_eq_true rfl)⟩ (Nat.le_of_ble_eq_true rfl) ?_
              obtain ⟨I3, hI3⟩ : ∃ y_ : ow_I, y_ = U_advance (p + 1) I := ⟨_, rfl⟩
              replace hk := lt_k (P := fun r : Bool × ow_I => ox_e K S (ve_f Z p ((r).2) V0) z 0 (some (.int (bi ((r).1)))) ((r).2)) hI3 hk
              refine or_nmI hI3 ?_
              refine or_aload_n E rfl dX7_readScript_61 ?_
              refine ot_getC E fl_7_20 dX7_readScript_62 h_p.1 rfl ?_
              refine or_iload_n E rfl dX7_readScript_65 ?_
              refine ot_aald (j := i) E dX7_readScript_66 h_p.2.2.1 rfl rfl (by omega) (Nat.le_of_ble_eq_true rfl) ?_
              refine or_aload_n E rfl dX7_readScript_67 ?_
              refine or_verb (i := i) (j := (Q_verbHere p I)) E fl_7_68 fwv_3_0 dX7_readScript_68 h_p (by omega) (by subst hI3; exact q28) (by subst hI3; exact (hW.trans (ve_eq (fun k hk2 => by rw [rr_adv (by omega)])).symm)) ?_
              obtain ⟨I4, hI4⟩ : ∃ y_ : ow_I, y_ = ow_u I3 (p + 6 + 2 * i) 0 (nI ((Q_verbHere p I))) := ⟨_, rfl⟩
              replace hk := lt_k (P := fun r : Bool × ow_I => ox_e K S (ve_f Z p ((r).2) V0) z 0 (some (.int (bi ((r).1)))) ((r).2)) hI4 hk
              refine or_nmI hI4 ?_
              refine or_aload_n E rfl dX7_readScript_71 ?_
              refine or_aload_n E rfl dX7_readScript_72 ?_
              refine ot_getC E fl_7_20 dX7_readScript_73 h_p.1 rfl ?_
              refine or_iload_n E rfl dX7_readScript_76 ?_
              refine ot_aald (j := i) E dX7_readScript_77 h_p.2.2.1 rfl rfl (by omega) (Nat.le_of_ble_eq_true rfl) ?_
              refine or_iload_n E rfl dX7_readScript_78 ?_
              refine or_fV2r (cQ_readNumbers (Z := Z)  h_p (h_p.2.2.2.2 i (by omega)) (by subst hI4 hI3; exact (in_row (in_adv hi) (rr_u (by omega)))) (by subst hI4 hI3; omega) (by subst hI4 hI3; exact (ve_at (by omega) q28 (ow_u_s _ _ _ _))) (by subst hI4 hI3; exact q28)) E G F lk_7_72 dX7_readScript_79 h_p.1 rfl rfl (by decide) (by decide) ⟨(Nat.le_of_ble_eq_true rfl), (Nat.le_of_ble_eq_true rfl)⟩ (Nat.le_of_ble_eq_true rfl) (fun _ => ?_) (fun h => absurd h (Nat.lt_irrefl 0))
              obtain ⟨r5, hr5⟩ : ∃ y_ : Bool × ow_I, y_ = Q_readNumbers p (p + 6 + 2 * i) b (Q_verbHere p I) I4 := ⟨_, rfl⟩
              replace hk := lt_k (P := fun r : Bool × ow_I => ox_e K S (ve_f Z p ((r).2) V0) z 0 (some (.int (bi ((r).1)))) ((r).2)) hr5 hk
              refine or_nmZ hr5 ?_
              refine or_if_eqZ 92 E dX7_readScript_82 rfl (fun q82 => ?_) (fun q82 => ?_)
              · replace hk := ite_n (P := fun r : Bool × ow_I => ox_e K S (ve_f Z p ((r).2) V0) z 0 (some (.int (bi ((r).1)))) ((r).2)) (bz_neg q82) hk
                refine or_iconst (v := nI 0) E rfl dX7_readScript_92 ?_
                refine or_heap (ow_hV (V2 := (ve_f Z p r5.2 V0)) (by subst hr5 hI4 hI3; exact (ve_eq (fun k hk2 => by simp (disch := omega) only [rr_u, rr_ts, rr_qf, rn_c, rr_adv, rr_beg])).symm)) ?_
                try dsimp only at hk
                exact or_xr E F (fun X' E' F' => or_zret E' F' dX7_readScript_93 (Nat.le_of_ble_eq_true rfl) (Nat.le_of_ble_eq_true rfl) (bi_nar false) (hk.1 rfl))
              · replace hk := ite_p (P := fun r : Bool × ow_I => ox_e K S (ve_f Z p ((r).2) V0) z 0 (some (.int (bi ((r).1)))) ((r).2)) q82 hk
                refine or_aload_n E rfl dX7_readScript_85 ?_
                refine or_cV0r (cQ_takeSemicolon  h_p (by subst hr5 hI4 hI3; exact (in_rn (in_row (in_adv hi) (rr_u (by omega))) (by omega)))) E lk_7_76 dX7_readScript_86 h_p.1 rfl rfl (by decide) (by decide) ⟨(Nat.le_of_ble_eq_true rfl), (Nat.le_of_ble_eq_true rfl)⟩ (Nat.le_of_ble_eq_true rfl) ?_
                obtain ⟨r6, hr6⟩ : ∃ y_ : Bool × ow_I, y_ = Q_takeSemicolon p r5.2 := ⟨_, rfl⟩
                replace hk := lt_k (P := fun r : Bool × ow_I => ox_e K S (ve_f Z p ((r).2) V0) z 0 (some (.int (bi ((r).1)))) ((r).2)) hr6 hk
                refine or_nmZ hr6 ?_
                refine or_if_neZ 94 E dX7_readScript_89 rfl (fun q89 => ?_) (fun q89 => ?_)
                · replace hk := ite_p (P := fun r : Bool × ow_I => ox_e K S (ve_f Z p ((r).2) V0) z 0 (some (.int (bi ((r).1)))) ((r).2)) q89 hk
                  refine or_aload_n E rfl dX7_readScript_94 ?_
                  refine or_iload_n E rfl dX7_readScript_95 ?_
                  refine or_iconst (v := nI 1) E rfl dX7_readScript_96 ?_
                  refine or_iaddN E dX7_readScript_97 ?_
                  refine ot_putI E fl_7_58 fw_7_3 dX7_readScript_98 h_p.1 rfl ?_
                  obtain ⟨I7, hI7⟩ : ∃ y_ : ow_I, y_ = ow_u r6.2 p 3 (nI (i + 1)) := ⟨_, rfl⟩
                  replace hk := lt_k (P := fun r : Bool × ow_I => ox_e K S (ve_f Z p ((r).2) V0) z 0 (some (.int (bi ((r).1)))) ((r).2)) hI7 hk
                  refine or_nmI hI7 ?_
                  refine or_iincN (c := 1) E dX7_readScript_101 rfl rfl (by decide) ?_
                  refine or_goto 11 E dX7_readScript_104 rfl ?_
                  refine or_lv _ ?_ (ih _ _ _ (by subst hI7 hr6 hr5 hI4 hI3; exact (in_row (in_ts (in_rn (in_row (in_adv hi) (rr_u (by omega))) (by omega))) (rr_u (by omega)))) (by subst hI7 hr6 hr5 hI4 hI3; exact (ve_eq (fun k hk2 => by simp (disch := omega) only [rr_u, rr_ts, rr_qf, rn_c, rr_adv, rr_beg])).symm) (by subst hI7 hr6 hr5 hI4 hI3; omega) (by omega) hk)
                  rfl
                · replace hk := ite_n (P := fun r : Bool × ow_I => ox_e K S (ve_f Z p ((r).2) V0) z 0 (some (.int (bi ((r).1)))) ((r).2)) (bz_neg q89) hk
                  refine or_iconst (v := nI 0) E rfl dX7_readScript_92 ?_
                  refine or_heap (ow_hV (V2 := (ve_f Z p r6.2 V0)) (by subst hr6 hr5 hI4 hI3; exact (ve_eq (fun k hk2 => by simp (disch := omega) only [rr_u, rr_ts, rr_qf, rn_c, rr_adv, rr_beg])).symm)) ?_
                  try dsimp only at hk
                  exact or_xr E F (fun X' E' F' => or_zret E' F' dX7_readScript_93 (Nat.le_of_ble_eq_true rfl) (Nat.le_of_ble_eq_true rfl) (bi_nar false) (hk.1 rfl))
            · replace hk := ite_p (P := fun r : Bool × ow_I => ox_e K S (ve_f Z p ((r).2) V0) z 0 (some (.int (bi ((r).1)))) ((r).2)) q45 hk
              refine or_aload_n E rfl dX7_readScript_48 ?_
              refine or_iconst (v := nI 3) E rfl dX7_readScript_49 ?_
              refine or_cV1r (cQ_fail  h_p ) E lk_7_54 dX7_readScript_50 h_p.1 rfl rfl (by decide) (by decide) ⟨(Nat.le_of_ble_eq_true rfl), (Nat.le_of_ble_eq_true rfl)⟩ (Nat.le_of_ble_eq_true rfl) ?_
              obtain ⟨r8, hr8⟩ : ∃ y_ : Bool × ow_I, y_ = Q_fail p (nI 3) I := ⟨_, rfl⟩
              replace hk := lt_k (P := fun r : Bool × ow_I => ox_e K S (ve_f Z p ((r).2) V0) z 0 (some (.int (bi ((r).1)))) ((r).2)) hr8 hk
              refine or_nmZ hr8 ?_
              refine or_heap (ow_hV (V2 := (ve_f Z p r8.2 V0)) (by subst hr8; exact (hW.trans (ve_eq (fun k hk2 => by simp (disch := omega) only [rr_u, rr_ts, rr_qf, rn_c, rr_adv, rr_beg])).symm))) ?_
              try dsimp only at hk
              exact or_xr E F (fun X' E' F' => or_zret E' F' dX7_readScript_53 (Nat.le_of_ble_eq_true rfl) (Nat.le_of_ble_eq_true rfl) (bi_nar _) (hk.1 rfl))
          · rw [gl_vx q28]
            replace hk := ite_n (P := fun r : Bool × ow_I => ox_e K S (ve_f Z p ((r).2) V0) z 0 (some (.int (bi ((r).1)))) ((r).2)) (Nat.not_lt.mpr q28) hk
            refine or_astore_nN E dX7_readScript_31 (by decide) ?_
            refine or_aload_nN E rfl dX7_readScript_32 ?_
            refine or_ifnonnullN E dX7_readScript_33 ?_
            refine or_aload_n E rfl dX7_readScript_36 ?_
            refine or_iconst (v := nI 1) E rfl dX7_readScript_37 ?_
            refine or_cV1r (cQ_fail  h_p ) E lk_7_54 dX7_readScript_38 h_p.1 rfl rfl (by decide) (by decide) ⟨(Nat.le_of_ble_eq_true rfl), (Nat.le_of_ble_eq_true rfl)⟩ (Nat.le_of_ble_eq_true rfl) ?_
            obtain ⟨r9, hr9⟩ : ∃ y_ : Bool × ow_I, y_ = Q_fail p (nI 1) I := ⟨_, rfl⟩
            replace hk := lt_k (P := fun r : Bool × ow_I => ox_e K S (ve_f Z p ((r).2) V0) z 0 (some (.int (bi ((r).1)))) ((r).2)) hr9 hk
            refine or_nmZ hr9 ?_
            refine or_heap (ow_hV (V2 := (ve_f Z p r9.2 V0)) (by subst hr9; exact (hW.trans (ve_eq (fun k hk2 => by simp (disch := omega) only [rr_u, rr_ts, rr_qf, rn_c, rr_adv, rr_beg])).symm))) ?_
            try dsimp only at hk
            exact or_xr E F (fun X' E' F' => or_zret E' F' dX7_readScript_41 (Nat.le_of_ble_eq_true rfl) (Nat.le_of_ble_eq_true rfl) (bi_nar _) (hk.1 rfl))
  try dsimp only [Q_readScript] at hk
  refine or_aload_n E rfl dX7_readScript_0 ?_
  refine or_cV0v (cQ_begin  h_p hi) E lk_7_33 dX7_readScript_1 h_p.1 rfl rfl (by decide) (by decide) ⟨(Nat.le_of_ble_eq_true rfl), (Nat.le_of_ble_eq_true rfl)⟩ (Nat.le_of_ble_eq_true rfl) ?_
  obtain ⟨I1, hI1⟩ : ∃ y_ : ow_I, y_ = Q_begin p I := ⟨_, rfl⟩
  replace hk := lt_k (P := fun r : Bool × ow_I => ox_e K S (ve_f Z p ((r).2) V0) z 0 (some (.int (bi ((r).1)))) ((r).2)) hI1 hk
  refine or_nmI hI1 ?_
  refine or_aload_n E rfl dX7_readScript_4 ?_
  refine or_iconst (v := nI 0) E rfl dX7_readScript_5 ?_
  refine ot_putI E fl_7_58 fw_7_3 dX7_readScript_6 h_p.1 rfl ?_
  obtain ⟨I2, hI2⟩ : ∃ y_ : ow_I, y_ = ow_u I1 p 3 (nI 0) := ⟨_, rfl⟩
  replace hk := lt_k (P := fun r : Bool × ow_I => ox_e K S (ve_f Z p ((r).2) V0) z 0 (some (.int (bi ((r).1)))) ((r).2)) hI2 hk
  refine or_nmI hI2 ?_
  refine or_iconst (v := nI 0) E rfl dX7_readScript_9 ?_
  refine or_istore_n E dX7_readScript_10 (by decide) ?_
  refine or_lv _ ?_ (L11 22 _ _ _ (by subst hI2 hI1; exact (in_row (in_beg hi) (rr_u (by omega)))) (by subst hI2 hI1; exact (hW.trans (ve_eq (fun k hk2 => by simp (disch := omega) only [rr_u, rr_ts, rr_qf, rn_c, rr_adv, rr_beg])).symm)) (by decide) (by decide) hk)
  rfl
