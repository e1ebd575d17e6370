theorem dJ7_fill_53178_0 : decode cJ7_fill_53178 0 = .ok (.iconst 0, 1) := by decide +kernel
theorem dJ7_fill_53178_1 : decode cJ7_fill_53178 1 = .ok (.istore_n 2, 1) := by decide +kernel
theorem dJ7_fill_53178_2 : decode cJ7_fill_53178 2 = .ok (.aload_n 0, 1) := by decide +kernel
theorem dJ7_fill_53178_3 : decode cJ7_fill_53178 3 = .ok (.arraylength, 1) := by decide +kernel
theorem dJ7_fill_53178_4 : decode cJ7_fill_53178 4 = .ok (.istore_n 3, 1) := by decide +kernel
theorem dJ7_fill_53178_5 : decode cJ7_fill_53178 5 = .ok (.iload_n 2, 1) := by decide +kernel
theorem dJ7_fill_53178_6 : decode cJ7_fill_53178 6 = .ok (.iload_n 3, 1) := by decide +kernel
theorem dJ7_fill_53178_7 : decode cJ7_fill_53178 7 = .ok (.if_icmp .ge 13, 3) := by decide +kernel
theorem dJ7_fill_53178_10 : decode cJ7_fill_53178 10 = .ok (.aload_n 0, 1) := by decide +kernel
theorem dJ7_fill_53178_11 : decode cJ7_fill_53178 11 = .ok (.iload_n 2, 1) := by decide +kernel
theorem dJ7_fill_53178_12 : decode cJ7_fill_53178 12 = .ok (.iload_n 1, 1) := by decide +kernel
theorem dJ7_fill_53178_13 : decode cJ7_fill_53178 13 = .ok (.iastore, 1) := by decide +kernel
theorem dJ7_fill_53178_14 : decode cJ7_fill_53178 14 = .ok (.iinc 2 1, 3) := by decide +kernel
theorem dJ7_fill_53178_17 : decode cJ7_fill_53178 17 = .ok (.goto (-12), 3) := by decide +kernel
theorem dJ7_fill_53178_20 : decode cJ7_fill_53178 20 = .ok (.return_, 1) := by decide +kernel
def j7_fill_53178_L5 (a : Nat) (v : Int32) : Nat → ow_I → Nat → ow_I
  | 0, I, _ => I
  | n + 1, I, i => if 9 ≤ i then I else lt (ow_u I a i v) (fun (I1 : ow_I) => j7_fill_53178_L5 a v n I1 (i + 1))
def j7_fill_53178 (a : Nat) (v : Int32) (I : ow_I) : ow_I :=
  j7_fill_53178_L5 a v 10 I 0
set_option maxRecDepth 100000 in
set_option maxHeartbeats 400000 in
theorem cj7_fill_53178 {Z : Nat → Nat} {S : Nat → Option ow_Sh} {I : ow_I} {V : Nat → Nat → Value} {z : Nat} {a : Nat} {v : Int32} (h_a : i9_S S a)  : ow_Cx Z yJ7_fill_53178 cJ7_fill_53178 4 none 0 0 0 [.ref a, .int v] (S, I, V, z) (ox_s S V z 0 none (j7_fill_53178 a v I)) := by
  refine ow_Cx.off rfl (Nat.le_of_ble_eq_true rfl) (fun X K E G F hk => ?_)
  have E : ow_E X RX107 cJ7_fill_53178 4 (ow_rm 0 0 0) := E
  refine or_lv [(0, .ref a), (1, .int v)] rfl ?_
  have L5 : ∀ (n : Nat) (I : ow_I) (i : Nat) (hi : i ≤ 9) (hm : 9 - i < n) (hk : ox_e K S V z 0 none (j7_fill_53178_L5 a v n I i)), ow_W X 0 0 (S, I, V, z) 5 [(0, .ref a), (1, .int v), (2, .int (nI i)), (3, .int (nI 9))] [] := by
    intro n
    induction n with
    | zero => intro I i hi hm; omega
    | succ n ih =>
      intro I i hi hm hk
      dsimp only [j7_fill_53178_L5] at hk
      refine or_iload_n E rfl dJ7_fill_53178_5 ?_
      refine or_iload_n E rfl dJ7_fill_53178_6 ?_
      refine or_icmp_geN 20 E dJ7_fill_53178_7 rfl (by omega) (by omega) (fun q7 => ?_) (fun q7 => ?_)
      · replace hk := ite_p (P := fun r : ow_I => ox_e K S V z 0 none r) q7 hk
        exact or_xr E F (fun X' E' F' => or_vret E' F' dJ7_fill_53178_20 (Nat.le_of_ble_eq_true rfl) (Nat.le_of_ble_eq_true rfl) (hk.1 rfl))
      · replace hk := ite_n (P := fun r : ow_I => ox_e K S V z 0 none r) q7 hk
        refine or_aload_n E rfl dJ7_fill_53178_10 ?_
        refine or_iload_n E rfl dJ7_fill_53178_11 ?_
        refine or_iload_n E rfl dJ7_fill_53178_12 ?_
        refine ot_iast (j := i) E dJ7_fill_53178_13 h_a rfl rfl (by omega) (Nat.le_of_ble_eq_true rfl) ?_
        obtain ⟨I1, hI1⟩ : ∃ y_ : ow_I, y_ = ow_u I a i v := ⟨_, rfl⟩
        replace hk := lt_k (P := fun r : ow_I => ox_e K S V z 0 none r) hI1 hk
        refine or_nmI hI1 ?_
        refine or_iincN (c := 1) E dJ7_fill_53178_14 rfl rfl (by decide) ?_
        refine or_goto 5 E dJ7_fill_53178_17 rfl ?_
        refine or_lv _ ?_ (ih _ _ (by omega) (by omega) hk)
        rfl
  try dsimp only [j7_fill_53178] at hk
  refine or_iconst (v := nI 0) E rfl dJ7_fill_53178_0 ?_
  refine or_istore_n E dJ7_fill_53178_1 (by decide) ?_
  refine or_aload_n E rfl dJ7_fill_53178_2 ?_
  refine or_alen E dJ7_fill_53178_3 h_a ?_
  refine or_istore_n E dJ7_fill_53178_4 (by decide) ?_
  refine or_lv _ ?_ (L5 10 _ _ (by decide) (by decide) hk)
  rfl
