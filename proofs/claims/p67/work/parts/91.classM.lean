def B_lengthAtRank_L18 (b : Nat) (k : Int32) : Nat → ow_I → Nat → Nat → Nat → Nat → Nat × Nat
  | 0, I, _, _, _, _ => (0, 0)
  | n + 1, I, i, sh, nl, o => if tn (I b 1) ≤ o then (sh, nl) else if I (b + 1) i ≤ I (b + 1) o then if I (b + 1) i < I (b + 1) o then B_lengthAtRank_L18 b k n I i (sh + 0) (nl + 0) (o + 1) else B_lengthAtRank_L18 b k n I i (sh + 0) (nl + 1) (o + 1) else if I (b + 1) i < I (b + 1) o then B_lengthAtRank_L18 b k n I i (sh + 1) (nl + 0) (o + 1) else B_lengthAtRank_L18 b k n I i (sh + 1) (nl + 1) (o + 1)
def B_lengthAtRank_L2 (b : Nat) (k : Int32) : Nat → ow_I → Nat → Int32
  | 0, I, _ => 0
  | n + 1, I, i => if tn (I b 1) ≤ i then (-1) else lt (B_lengthAtRank_L18 b k 10 I i 0 0 0) (fun (r1 : Nat × Nat) => if k < nI r1.1 then B_lengthAtRank_L2 b k n I (i + 1) else if nI r1.2 ≤ k then B_lengthAtRank_L2 b k n I (i + 1) else I (b + 1) i)
def B_lengthAtRank (b : Nat) (k : Int32) (I : ow_I) : Int32 :=
  B_lengthAtRank_L2 b k 10 I 0
set_option maxRecDepth 100000 in
set_option maxHeartbeats 400000 in
theorem cB_lengthAtRank {S : Nat → Option ow_Sh} {I : ow_I} {V : Nat → Nat → Value} {z : Nat} {b : Nat} {k : Int32} (h_b : br_S S b) (he : 0 ≤ I b 1) (heb : tn (I b 1) ≤ 9) : ow_Cf yX1_lengthAtRank cX1_lengthAtRank 6 (some .int) 0 [.ref b, .int k] (S, I, V, z) (some (.int (B_lengthAtRank b k I))) (S, I, V, z) := by
  refine ow_Cf.of rfl (Nat.le_of_ble_eq_true rfl) (fun X K E F hk => ?_)
  have E : ow_E X RX1 cX1_lengthAtRank 6 (ow_rm 0 0 0) := E
  refine or_lv [(0, .ref b), (1, .int k)] rfl ?_
  have L18 : ∀ (n : Nat) (I : ow_I) (i : Nat) (sh : Nat) (nl : Nat) (o : Nat) (he : 0 ≤ I b 1) (heb : tn (I b 1) ≤ 9) (hi : i < 9) (hs : sh ≤ o) (hnl : nl ≤ o) (ho : o ≤ 9) (hm : 9 - o < n) (hk : ow_W X 0 0 (S, I, V, z) 83 [(0, .ref b), (1, .int k), (2, .int (nI i)), (3, .int (nI ((B_lengthAtRank_L18 b k n I i sh nl o).1))), (4, .int (nI ((B_lengthAtRank_L18 b k n I i sh nl o).2)))] []), ow_W X 0 0 (S, I, V, z) 18 [(0, .ref b), (1, .int k), (2, .int (nI i)), (3, .int (nI sh)), (4, .int (nI nl)), (5, .int (nI o))] [] := by
    intro n
    induction n with
    | zero => intro I i sh nl o he heb hi hs hnl ho hm; omega
    | succ n ih =>
      intro I i sh nl o he heb hi hs hnl ho hm hk
      dsimp only [B_lengthAtRank_L18] at hk
      refine or_iload E rfl dX1_lengthAtRank_18 ?_
      refine or_aload_n E rfl dX1_lengthAtRank_20 ?_
      refine ot_getI E fl_1_42 dX1_lengthAtRank_21 h_b.1 rfl ?_
      refine or_top (nI_tn he).symm ?_
      refine or_icmp_geN 83 E dX1_lengthAtRank_24 rfl (by omega) (by omega) (fun q24 => ?_) (fun q24 => ?_)
      · replace hk := ite_p (P := fun r : Nat × Nat => ow_W X 0 0 (S, I, V, z) 83 [(0, .ref b), (1, .int k), (2, .int (nI i)), (3, .int (nI r.1)), (4, .int (nI r.2))] []) q24 hk
        try dsimp only at hk
        exact or_lv _ rfl hk
      · replace hk := ite_n (P := fun r : Nat × Nat => ow_W X 0 0 (S, I, V, z) 83 [(0, .ref b), (1, .int k), (2, .int (nI i)), (3, .int (nI r.1)), (4, .int (nI r.2))] []) q24 hk
        refine or_iload_n E rfl dX1_lengthAtRank_27 ?_
        refine or_aload_n E rfl dX1_lengthAtRank_28 ?_
        refine ot_getC E fl_1_9 dX1_lengthAtRank_29 h_b.1 rfl ?_
        refine or_iload E rfl dX1_lengthAtRank_32 ?_
        refine ot_iald (j := o) E dX1_lengthAtRank_34 h_b.2 rfl rfl (by omega) (Nat.le_of_ble_eq_true rfl) ?_
        refine or_aload_n E rfl dX1_lengthAtRank_35 ?_
        refine ot_getC E fl_1_9 dX1_lengthAtRank_36 h_b.1 rfl ?_
        refine or_iload_n E rfl dX1_lengthAtRank_39 ?_
        refine ot_iald (j := i) E dX1_lengthAtRank_40 h_b.2 rfl rfl (by omega) (Nat.le_of_ble_eq_true rfl) ?_
        refine or_icmp_ge 48 E dX1_lengthAtRank_41 rfl (fun q41 => ?_) (fun q41 => ?_)
        · replace hk := ite_p (P := fun r : Nat × Nat => ow_W X 0 0 (S, I, V, z) 83 [(0, .ref b), (1, .int k), (2, .int (nI i)), (3, .int (nI r.1)), (4, .int (nI r.2))] []) q41 hk
          refine or_iconst (v := nI 0) E rfl dX1_lengthAtRank_48 ?_
          refine or_iaddN E dX1_lengthAtRank_49 ?_
          refine or_istore_n E dX1_lengthAtRank_50 (by decide) ?_
          refine or_iload E rfl dX1_lengthAtRank_51 ?_
          refine or_aload_n E rfl dX1_lengthAtRank_53 ?_
          refine ot_getC E fl_1_9 dX1_lengthAtRank_54 h_b.1 rfl ?_
          refine or_iload E rfl dX1_lengthAtRank_57 ?_
          refine ot_iald (j := o) E dX1_lengthAtRank_59 h_b.2 rfl rfl (by omega) (Nat.le_of_ble_eq_true rfl) ?_
          refine or_aload_n E rfl dX1_lengthAtRank_60 ?_
          refine ot_getC E fl_1_9 dX1_lengthAtRank_61 h_b.1 rfl ?_
          refine or_iload_n E rfl dX1_lengthAtRank_64 ?_
          refine ot_iald (j := i) E dX1_lengthAtRank_65 h_b.2 rfl rfl (by omega) (Nat.le_of_ble_eq_true rfl) ?_
          refine or_icmp_gt 73 E dX1_lengthAtRank_66 rfl (fun q66 => ?_) (fun q66 => ?_)
          · replace hk := ite_p (P := fun r : Nat × Nat => ow_W X 0 0 (S, I, V, z) 83 [(0, .ref b), (1, .int k), (2, .int (nI i)), (3, .int (nI r.1)), (4, .int (nI r.2))] []) q66 hk
            refine or_iconst (v := nI 0) E rfl dX1_lengthAtRank_73 ?_
            refine or_iaddN E dX1_lengthAtRank_74 ?_
            refine or_istore E dX1_lengthAtRank_75 (by decide) ?_
            refine or_iincN (c := 1) E dX1_lengthAtRank_77 rfl rfl (by decide) ?_
            refine or_goto 18 E dX1_lengthAtRank_80 rfl ?_
            refine or_lv _ ?_ (ih _ _ _ _ _ he heb hi (by omega) (by omega) (by omega) (by omega) hk)
            rfl
          · replace hk := ite_n (P := fun r : Nat × Nat => ow_W X 0 0 (S, I, V, z) 83 [(0, .ref b), (1, .int k), (2, .int (nI i)), (3, .int (nI r.1)), (4, .int (nI r.2))] []) q66 hk
            refine or_iconst (v := nI 1) E rfl dX1_lengthAtRank_69 ?_
            refine or_goto 74 E dX1_lengthAtRank_70 rfl ?_
            refine or_iaddN E dX1_lengthAtRank_74 ?_
            refine or_istore E dX1_lengthAtRank_75 (by decide) ?_
            refine or_iincN (c := 1) E dX1_lengthAtRank_77 rfl rfl (by decide) ?_
            refine or_goto 18 E dX1_lengthAtRank_80 rfl ?_
            refine or_lv _ ?_ (ih _ _ _ _ _ he heb hi (by omega) (by omega) (by omega) (by omega) hk)
            rfl
        · replace hk := ite_n (P := fun r : Nat × Nat => ow_W X 0 0 (S, I, V, z) 83 [(0, .ref b), (1, .int k), (2, .int (nI i)), (3, .int (nI r.1)), (4, .int (nI r.2))] []) q41 hk
          refine or_iconst (v := nI 1) E rfl dX1_lengthAtRank_44 ?_
          refine or_goto 49 E dX1_lengthAtRank_45 rfl ?_
          refine or_iaddN E dX1_lengthAtRank_49 ?_
          refine or_istore_n E dX1_lengthAtRank_50 (by decide) ?_
          refine or_iload E rfl dX1_lengthAtRank_51 ?_
          refine or_aload_n E rfl dX1_lengthAtRank_53 ?_
          refine ot_getC E fl_1_9 dX1_lengthAtRank_54 h_b.1 rfl ?_
          refine or_iload E rfl dX1_lengthAtRank_57 ?_
          refine ot_iald (j := o) E dX1_lengthAtRank_59 h_b.2 rfl rfl (by omega) (Nat.le_of_ble_eq_true rfl) ?_
          refine or_aload_n E rfl dX1_lengthAtRank_60 ?_
          refine ot_getC E fl_1_9 dX1_lengthAtRank_61 h_b.1 rfl ?_
          refine or_iload_n E rfl dX1_lengthAtRank_64 ?_
          refine ot_iald (j := i) E dX1_lengthAtRank_65 h_b.2 rfl rfl (by omega) (Nat.le_of_ble_eq_true rfl) ?_
          refine or_icmp_gt 73 E dX1_lengthAtRank_66 rfl (fun q66 => ?_) (fun q66 => ?_)
          · replace hk := ite_p (P := fun r : Nat × Nat => ow_W X 0 0 (S, I, V, z) 83 [(0, .ref b), (1, .int k), (2, .int (nI i)), (3, .int (nI r.1)), (4, .int (nI r.2))] []) q66 hk
            refine or_iconst (v := nI 0) E rfl dX1_lengthAtRank_73 ?_
            refine or_iaddN E dX1_lengthAtRank_74 ?_
            refine or_istore E dX1_lengthAtRank_75 (by decide) ?_
            refine or_iincN (c := 1) E dX1_lengthAtRank_77 rfl rfl (by decide) ?_
            refine or_goto 18 E dX1_lengthAtRank_80 rfl ?_
            refine or_lv _ ?_ (ih _ _ _ _ _ he heb hi (by omega) (by omega) (by omega) (by omega) hk)
            rfl
          · replace hk := ite_n (P := fun r : Nat × Nat => ow_W X 0 0 (S, I, V, z) 83 [(0, .ref b), (1, .int k), (2, .int (nI i)), (3, .int (nI r.1)), (4, .int (nI r.2))] []) q66 hk
            refine or_iconst (v := nI 1) E rfl dX1_lengthAtRank_69 ?_
            refine or_goto 74 E dX1_lengthAtRank_70 rfl ?_
            refine or_iaddN E dX1_lengthAtRank_74 ?_
            refine or_istore E dX1_lengthAtRank_75 (by decide) ?_
            refine or_iincN (c := 1) E dX1_lengthAtRank_77 rfl rfl (by decide) ?_
            refine or_goto 18 E dX1_lengthAtRank_80 rfl ?_
            refine or_lv _ ?_ (ih _ _ _ _ _ he heb hi (by omega) (by omega) (by omega) (by omega) hk)
            rfl
  have L2 : ∀ (n : Nat) (I : ow_I) (i : Nat) (he : 0 ≤ I b 1) (heb : tn (I b 1) ≤ 9) (hi : i ≤ 9) (hm : 9 - i < n) (hk : K (some (.int (B_lengthAtRank_L2 b k n I i))) (S, I, V, z)), ow_W X 0 0 (S, I, V, z) 2 [(0, .ref b), (1, .int k), (2, .int (nI i))] [] := by
    intro n
    induction n with
    | zero => intro I i he heb hi hm; omega
    | succ n ih =>
      intro I i he heb hi hm hk
      dsimp only [B_lengthAtRank_L2] at hk
      refine or_iload_n E rfl dX1_lengthAtRank_2 ?_
      refine or_aload_n E rfl dX1_lengthAtRank_3 ?_
      refine ot_getI E fl_1_42 dX1_lengthAtRank_4 h_b.1 rfl ?_
      refine or_top (nI_tn he).symm ?_
      refine or_icmp_geN 107 E dX1_lengthAtRank_7 rfl (by omega) (by omega) (fun q7 => ?_) (fun q7 => ?_)
      · replace hk := ite_p (P := fun r : Int32 => K (some (.int (r))) (S, I, V, z)) q7 hk
        refine or_iconst (v := -1) E rfl dX1_lengthAtRank_107 ?_
        exact or_iret E F dX1_lengthAtRank_108 (Nat.le_refl _) (Nat.le_refl _) hk
      · replace hk := ite_n (P := fun r : Int32 => K (some (.int (r))) (S, I, V, z)) q7 hk
        refine or_iconst (v := nI 0) E rfl dX1_lengthAtRank_10 ?_
        refine or_istore_n E dX1_lengthAtRank_11 (by decide) ?_
        refine or_iconst (v := nI 0) E rfl dX1_lengthAtRank_12 ?_
        refine or_istore E dX1_lengthAtRank_13 (by decide) ?_
        refine or_iconst (v := nI 0) E rfl dX1_lengthAtRank_15 ?_
        refine or_istore E dX1_lengthAtRank_16 (by decide) ?_
        refine or_lv _ ?_ (L18 10 _ i 0 0 0 he heb (by omega) (by decide) (by decide) (by decide) (by decide) ?_)
        · rfl
        obtain ⟨r1, hr1⟩ : ∃ y_ : Nat × Nat, y_ = B_lengthAtRank_L18 b k 10 I i 0 0 0 := ⟨_, rfl⟩
        replace hk := lt_k (P := fun r : Int32 => K (some (.int (r))) (S, I, V, z)) hr1 hk
        rw [← hr1]
        refine or_iload_n E rfl dX1_lengthAtRank_83 ?_
        refine or_iload_n E rfl dX1_lengthAtRank_84 ?_
        refine or_icmp_gt 101 E dX1_lengthAtRank_85 rfl (fun q85 => ?_) (fun q85 => ?_)
        · replace hk := ite_p (P := fun r : Int32 => K (some (.int (r))) (S, I, V, z)) q85 hk
          refine or_iincN (c := 1) E dX1_lengthAtRank_101 rfl rfl (by decide) ?_
          refine or_goto 2 E dX1_lengthAtRank_104 rfl ?_
          refine or_lv _ ?_ (ih _ _ (by subst hr1; exact he) (by subst hr1; exact heb) (by subst hr1; omega) (by omega) hk)
          rfl
        · replace hk := ite_n (P := fun r : Int32 => K (some (.int (r))) (S, I, V, z)) q85 hk
          refine or_iload_n E rfl dX1_lengthAtRank_88 ?_
          refine or_iload E rfl dX1_lengthAtRank_89 ?_
          refine or_icmp_ge 101 E dX1_lengthAtRank_91 rfl (fun q91 => ?_) (fun q91 => ?_)
          · replace hk := ite_p (P := fun r : Int32 => K (some (.int (r))) (S, I, V, z)) q91 hk
            refine or_iincN (c := 1) E dX1_lengthAtRank_101 rfl rfl (by decide) ?_
            refine or_goto 2 E dX1_lengthAtRank_104 rfl ?_
            refine or_lv _ ?_ (ih _ _ (by subst hr1; exact he) (by subst hr1; exact heb) (by subst hr1; omega) (by omega) hk)
            rfl
          · replace hk := ite_n (P := fun r : Int32 => K (some (.int (r))) (S, I, V, z)) q91 hk
            refine or_aload_n E rfl dX1_lengthAtRank_94 ?_
            refine ot_getC E fl_1_9 dX1_lengthAtRank_95 h_b.1 rfl ?_
            refine or_iload_n E rfl dX1_lengthAtRank_98 ?_
            refine ot_iald (j := i) E dX1_lengthAtRank_99 h_b.2 rfl rfl (by omega) (Nat.le_of_ble_eq_true rfl) ?_
            exact or_iret E F dX1_lengthAtRank_100 (Nat.le_refl _) (Nat.le_refl _) hk
  dsimp only [B_lengthAtRank] at hk
  refine or_iconst (v := nI 0) E rfl dX1_lengthAtRank_0 ?_
  refine or_istore_n E dX1_lengthAtRank_1 (by decide) ?_
  refine or_lv _ ?_ (L2 10 _ _ he heb (by decide) (by decide) hk)
  rfl
