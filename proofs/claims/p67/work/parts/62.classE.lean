theorem fl_6_71 : ow_fl RX6 71 6 8 := ⟨_, rfl, by decide, ow_T_in 172 (by decide +kernel) (by decide +kernel), ow_ok6⟩
theorem fl_6_77 : ow_fl RX6 77 6 10 := ⟨_, rfl, by decide, ow_T_in 176 (by decide +kernel) (by decide +kernel), ow_ok6⟩
def K_hasBarrel (a : Nat) (x : Int32) (I : ow_I) : Bool :=
  if x < 0 then false else if I a 10 ≤ x then false else true
set_option maxRecDepth 100000 in
set_option maxHeartbeats 400000 in
theorem cK_hasBarrel {S : Nat → Option ow_Sh} {I : ow_I} {V : Nat → Nat → Value} {z : Nat} {a : Nat} {x : Int32} (h_a : mk_S S a)  : ow_Cf yX6_hasBarrel cX6_hasBarrel 2 (some .boolean) 0 [.ref a, .int x] (S, I, V, z) (some (.int (bi (K_hasBarrel a x I)))) (S, I, V, z) := by
  refine ow_Cf.of rfl (Nat.le_of_ble_eq_true rfl) (fun X K E F hk => ?_)
  have E : ow_E X RX6 cX6_hasBarrel 2 (ow_rm 0 0 0) := E
  refine or_lv [(0, .ref a), (1, .int x)] rfl ?_
  dsimp only [K_hasBarrel] at hk
  refine or_iload_n E rfl dX6_hasBarrel_0 ?_
  refine or_if_lt 16 E dX6_hasBarrel_1 rfl (fun q1 => ?_) (fun q1 => ?_)
  · replace hk := ite_p (P := fun r : Bool => K (some (.int (bi (r)))) (S, I, V, z)) q1 hk
    refine or_iconst (v := nI 0) E rfl dX6_hasBarrel_16 ?_
    exact or_zret E F dX6_hasBarrel_17 (Nat.le_refl _) (Nat.le_refl _) (bi_nar false) hk
  · replace hk := ite_n (P := fun r : Bool => K (some (.int (bi (r)))) (S, I, V, z)) q1 hk
    refine or_iload_n E rfl dX6_hasBarrel_4 ?_
    refine or_aload_n E rfl dX6_hasBarrel_5 ?_
    refine ot_getI E fl_6_77 dX6_hasBarrel_6 h_a.1 rfl ?_
    refine or_icmp_ge 16 E dX6_hasBarrel_9 rfl (fun q9 => ?_) (fun q9 => ?_)
    · replace hk := ite_p (P := fun r : Bool => K (some (.int (bi (r)))) (S, I, V, z)) q9 hk
      refine or_iconst (v := nI 0) E rfl dX6_hasBarrel_16 ?_
      exact or_zret E F dX6_hasBarrel_17 (Nat.le_refl _) (Nat.le_refl _) (bi_nar false) hk
    · replace hk := ite_n (P := fun r : Bool => K (some (.int (bi (r)))) (S, I, V, z)) q9 hk
      refine or_iconst (v := nI 1) E rfl dX6_hasBarrel_12 ?_
      refine or_goto 17 E dX6_hasBarrel_13 rfl ?_
      exact or_zret E F dX6_hasBarrel_17 (Nat.le_refl _) (Nat.le_refl _) (bi_nar true) hk
def K_hasBuyer (a : Nat) (x : Int32) (I : ow_I) : Bool :=
  if x < 0 then false else if I a 8 ≤ x then false else true
set_option maxRecDepth 100000 in
set_option maxHeartbeats 400000 in
theorem cK_hasBuyer {S : Nat → Option ow_Sh} {I : ow_I} {V : Nat → Nat → Value} {z : Nat} {a : Nat} {x : Int32} (h_a : mk_S S a)  : ow_Cf yX6_hasBuyer cX6_hasBuyer 2 (some .boolean) 0 [.ref a, .int x] (S, I, V, z) (some (.int (bi (K_hasBuyer a x I)))) (S, I, V, z) := by
  refine ow_Cf.of rfl (Nat.le_of_ble_eq_true rfl) (fun X K E F hk => ?_)
  have E : ow_E X RX6 cX6_hasBuyer 2 (ow_rm 0 0 0) := E
  refine or_lv [(0, .ref a), (1, .int x)] rfl ?_
  dsimp only [K_hasBuyer] at hk
  refine or_iload_n E rfl dX6_hasBuyer_0 ?_
  refine or_if_lt 16 E dX6_hasBuyer_1 rfl (fun q1 => ?_) (fun q1 => ?_)
  · replace hk := ite_p (P := fun r : Bool => K (some (.int (bi (r)))) (S, I, V, z)) q1 hk
    refine or_iconst (v := nI 0) E rfl dX6_hasBuyer_16 ?_
    exact or_zret E F dX6_hasBuyer_17 (Nat.le_refl _) (Nat.le_refl _) (bi_nar false) hk
  · replace hk := ite_n (P := fun r : Bool => K (some (.int (bi (r)))) (S, I, V, z)) q1 hk
    refine or_iload_n E rfl dX6_hasBuyer_4 ?_
    refine or_aload_n E rfl dX6_hasBuyer_5 ?_
    refine ot_getI E fl_6_71 dX6_hasBuyer_6 h_a.1 rfl ?_
    refine or_icmp_ge 16 E dX6_hasBuyer_9 rfl (fun q9 => ?_) (fun q9 => ?_)
    · replace hk := ite_p (P := fun r : Bool => K (some (.int (bi (r)))) (S, I, V, z)) q9 hk
      refine or_iconst (v := nI 0) E rfl dX6_hasBuyer_16 ?_
      exact or_zret E F dX6_hasBuyer_17 (Nat.le_refl _) (Nat.le_refl _) (bi_nar false) hk
    · replace hk := ite_n (P := fun r : Bool => K (some (.int (bi (r)))) (S, I, V, z)) q9 hk
      refine or_iconst (v := nI 1) E rfl dX6_hasBuyer_12 ?_
      refine or_goto 17 E dX6_hasBuyer_13 rfl ?_
      exact or_zret E F dX6_hasBuyer_17 (Nat.le_refl _) (Nat.le_refl _) (bi_nar true) hk
def K_hasRoom (a : Nat) (I : ow_I) : Bool :=
  if nI 20 ≤ I a 10 then false else true
set_option maxRecDepth 100000 in
set_option maxHeartbeats 400000 in
theorem cK_hasRoom {S : Nat → Option ow_Sh} {I : ow_I} {V : Nat → Nat → Value} {z : Nat} {a : Nat} (h_a : mk_S S a)  : ow_Cf yX6_hasRoom cX6_hasRoom 1 (some .boolean) 0 [.ref a] (S, I, V, z) (some (.int (bi (K_hasRoom a I)))) (S, I, V, z) := by
  refine ow_Cf.of rfl (Nat.le_of_ble_eq_true rfl) (fun X K E F hk => ?_)
  have E : ow_E X RX6 cX6_hasRoom 1 (ow_rm 0 0 0) := E
  refine or_lv [(0, .ref a)] rfl ?_
  dsimp only [K_hasRoom] at hk
  refine or_aload_n E rfl dX6_hasRoom_0 ?_
  refine ot_getI E fl_6_77 dX6_hasRoom_1 h_a.1 rfl ?_
  refine or_bipush (v := nI 20) E rfl dX6_hasRoom_4 ?_
  refine or_icmp_ge 13 E dX6_hasRoom_6 rfl (fun q6 => ?_) (fun q6 => ?_)
  · replace hk := ite_p (P := fun r : Bool => K (some (.int (bi (r)))) (S, I, V, z)) q6 hk
    refine or_iconst (v := nI 0) E rfl dX6_hasRoom_13 ?_
    exact or_zret E F dX6_hasRoom_14 (Nat.le_refl _) (Nat.le_refl _) (bi_nar false) hk
  · replace hk := ite_n (P := fun r : Bool => K (some (.int (bi (r)))) (S, I, V, z)) q6 hk
    refine or_iconst (v := nI 1) E rfl dX6_hasRoom_9 ?_
    refine or_goto 14 E dX6_hasRoom_10 rfl ?_
    exact or_zret E F dX6_hasRoom_14 (Nat.le_refl _) (Nat.le_refl _) (bi_nar true) hk
