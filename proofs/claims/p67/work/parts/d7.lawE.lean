theorem lk_120_166 : ow_lv RX120 166 yX10_nod cX10_nod 2 (some .int) 1 := ⟨ow_T_in 1056 (by decide +kernel) (by decide +kernel), ow_T_in 1057 (by decide +kernel) (by decide +kernel), ow_T_in 1058 (by decide +kernel) (by decide +kernel), ow_T_in 1 (by decide +kernel) (by decide +kernel), ow_T_in 1059 (by decide +kernel) (by decide +kernel), ⟨by decide +kernel, by decide +kernel, by decide +kernel⟩⟩
theorem lk_120_171 : ow_lv RX120 171 yX10_split cX10_split 3 (some .int) 2 := ⟨ow_T_in 1074 (by decide +kernel) (by decide +kernel), ow_T_in 1075 (by decide +kernel) (by decide +kernel), ow_T_in 1076 (by decide +kernel) (by decide +kernel), ow_T_in 1 (by decide +kernel) (by decide +kernel), ow_T_in 1077 (by decide +kernel) (by decide +kernel), ⟨by decide +kernel, by decide +kernel, by decide +kernel⟩⟩
theorem lk_120_174 : ow_lv RX120 174 yX10_withdraw cX10_withdraw 2 (some .int) 1 := ⟨ow_T_in 1111 (by decide +kernel) (by decide +kernel), ow_T_in 1112 (by decide +kernel) (by decide +kernel), ow_T_in 1113 (by decide +kernel) (by decide +kernel), ow_T_in 1 (by decide +kernel) (by decide +kernel), ow_T_in 1114 (by decide +kernel) (by decide +kernel), ⟨by decide +kernel, by decide +kernel, by decide +kernel⟩⟩
theorem cl_120_169 : Cond.classLink RX120 169 "java/lang/IllegalStateException" ∈ ow_T := ow_T_in 1055 (by decide +kernel) (by decide +kernel)
def L_nod (x : Nat) (y : Int32) (I : ow_I) : Int32 × ow_I := if (A_nod x y I).1 = 0 then ((A_nod x y I).2.1, (A_nod x y I).2.2) else (-100, (A_nod x y I).2.2)
theorem cnod_c {x : Nat} {y : Int32} {I : ow_I} (h : ¬ (A_nod x y I).1 = 0) : (A_nod x y I).1 = 2 := by
  revert h
  unfold A_nod A_requireState
  repeat' split
  all_goals first | (intro h; exact absurd rfl h) | (intro _; rfl) | (intro h; exact absurd ‹_› (by decide))
set_option maxRecDepth 100000 in
set_option maxHeartbeats 400000 in
theorem tL_nod {Z : Nat → Nat} {S : Nat → Option ow_Sh} {I : ow_I} {V : Nat → Nat → Value} {z x : Nat} {y : Int32} (h_x : au_S S x) (hX : au_V x I) (hy : 0 ≤ y ∧ tn y < tn (I (x + 1) 8)) : ow_Ch Z yL_nod cL_nod 3 (some .int) [(0, 5, 6, 169)] 11 1 6 [.ref x, .int y] (S, I, V, z) (fun r h1 => r = some (.int (L_nod x y I).1) ∧ ∃ z', z ≤ z' ∧ h1 = (S, (L_nod x y I).2, V, z')) := by
  refine ow_Ch.of rfl (Nat.le_of_ble_eq_true rfl) (fun X E G T9 F => ?_)
  have E : ow_E X RX120 cL_nod 3 (ow_rm 11 1 6) := E
  refine or_lv [(0, .ref x), (1, .int y)] rfl ?_
  refine or_aload_n E rfl dL_nod_0 ?_
  refine or_iload_n E rfl dL_nod_1 ?_
  refine or_xVH (st := []) [.int y] (cA_nod (Z := Z) h_x hX hy) E G T9 lk_120_166 dL_nod_2 h_x.1 rfl rfl rfl (Nat.le_refl _) (by decide) ⟨Nat.le_of_ble_eq_true rfl, Nat.le_of_ble_eq_true rfl⟩ (Nat.le_of_ble_eq_true rfl) (fun r h1 q => ?_) (fun c' h1 hc q => ?_)
  · obtain ⟨q1, q2, q3⟩ := q
    obtain ⟨rfl, rfl⟩ := q2 q1.symm
    exact or_iret E F dL_nod_5 (Nat.le_of_ble_eq_true rfl) (Nat.le_of_ble_eq_true rfl) (by
      unfold L_nod
      rw [if_pos q1.symm]
      exact ⟨rfl, z, Nat.le_refl _, rfl⟩)
  · obtain ⟨q1, q2, q3⟩ := q
    obtain ⟨-, z1, hz1, rfl⟩ := q3 (q1 ▸ hc)
    have hn : ¬ (A_nod x y I).1 = 0 := fun h => by rw [← q1] at h; exact absurd h (Nat.pos_iff_ne_zero.mp hc)
    rw [cnod_c hn] at q1
    subst q1
    refine ⟨[], ⟨0, 5, 6, 169⟩, [], rfl, (fun z hz => by cases hz), by decide, by decide, cl_120_169, List.mem_of_getElem? (i := 1) rfl, fun q => ?_⟩
    refine or_astore_n E dL_nod_6 (by decide) ?_
    refine or_bipush (v := -100) E rfl dL_nod_7 ?_
    exact or_iret E F dL_nod_9 (Nat.le_of_ble_eq_true rfl) (Nat.le_of_ble_eq_true rfl) (by
      unfold L_nod
      rw [if_neg hn]
      exact ⟨rfl, z1, hz1, rfl⟩)
def L_split (x : Nat) (b : Int32) (n : Int32) (I : ow_I) : Int32 × ow_I := if (A_split x b n I).1 = 0 then ((A_split x b n I).2.1, (A_split x b n I).2.2) else (-100, (A_split x b n I).2.2)
theorem csplit_c {x : Nat} {b : Int32} {n : Int32} {I : ow_I} (h : ¬ (A_split x b n I).1 = 0) : (A_split x b n I).1 = 2 := by
  revert h
  unfold A_split A_requireState
  repeat' split
  all_goals first | (intro h; exact absurd rfl h) | (intro _; rfl) | (intro h; exact absurd ‹_› (by decide))
set_option maxRecDepth 100000 in
set_option maxHeartbeats 400000 in
theorem tL_split {Z : Nat → Nat} {S : Nat → Option ow_Sh} {I : ow_I} {V : Nat → Nat → Value} {z x : Nat} {b : Int32} {n : Int32} (h_x : au_S S x) (hX : au_V x I) (hb : 0 ≤ b ∧ tn b < tn (I (x + 1) 10)) (hr : nI 1 ≤ n ∧ n ≤ nI 8) : ow_Ch Z yL_split cL_split 4 (some .int) [(0, 6, 7, 169)] 11 1 6 [.ref x, .int b, .int n] (S, I, V, z) (fun r h1 => r = some (.int (L_split x b n I).1) ∧ ∃ z', z ≤ z' ∧ h1 = (S, (L_split x b n I).2, V, z')) := by
  refine ow_Ch.of rfl (Nat.le_of_ble_eq_true rfl) (fun X E G T9 F => ?_)
  have E : ow_E X RX120 cL_split 4 (ow_rm 11 1 6) := E
  refine or_lv [(0, .ref x), (1, .int b), (2, .int n)] rfl ?_
  refine or_aload_n E rfl dL_split_0 ?_
  refine or_iload_n E rfl dL_split_1 ?_
  refine or_iload_n E rfl dL_split_2 ?_
  refine or_xVH (st := []) [.int b, .int n] (cA_split (Z := Z) h_x hX hb hr) E G T9 lk_120_171 dL_split_3 h_x.1 rfl rfl rfl (Nat.le_refl _) (by decide) ⟨Nat.le_of_ble_eq_true rfl, Nat.le_of_ble_eq_true rfl⟩ (Nat.le_of_ble_eq_true rfl) (fun r h1 q => ?_) (fun c' h1 hc q => ?_)
  · obtain ⟨q1, q2, q3⟩ := q
    obtain ⟨rfl, rfl⟩ := q2 q1.symm
    exact or_iret E F dL_split_6 (Nat.le_of_ble_eq_true rfl) (Nat.le_of_ble_eq_true rfl) (by
      unfold L_split
      rw [if_pos q1.symm]
      exact ⟨rfl, z, Nat.le_refl _, rfl⟩)
  · obtain ⟨q1, q2, q3⟩ := q
    obtain ⟨-, z1, hz1, rfl⟩ := q3 (q1 ▸ hc)
    have hn : ¬ (A_split x b n I).1 = 0 := fun h => by rw [← q1] at h; exact absurd h (Nat.pos_iff_ne_zero.mp hc)
    rw [csplit_c hn] at q1
    subst q1
    refine ⟨[], ⟨0, 6, 7, 169⟩, [], rfl, (fun z hz => by cases hz), by decide, by decide, cl_120_169, List.mem_of_getElem? (i := 1) rfl, fun q => ?_⟩
    refine or_astore_n E dL_split_7 (by decide) ?_
    refine or_bipush (v := -100) E rfl dL_split_8 ?_
    exact or_iret E F dL_split_10 (Nat.le_of_ble_eq_true rfl) (Nat.le_of_ble_eq_true rfl) (by
      unfold L_split
      rw [if_neg hn]
      exact ⟨rfl, z1, hz1, rfl⟩)
def L_withdraw (x : Nat) (b : Int32) (I : ow_I) : Int32 × ow_I := if (A_withdraw x b I).1 = 0 then ((A_withdraw x b I).2.1, (A_withdraw x b I).2.2) else (-100, (A_withdraw x b I).2.2)
theorem cwithdraw_c {x : Nat} {b : Int32} {I : ow_I} (h : ¬ (A_withdraw x b I).1 = 0) : (A_withdraw x b I).1 = 2 := by
  revert h
  unfold A_withdraw A_requireState
  repeat' split
  all_goals first | (intro h; exact absurd rfl h) | (intro _; rfl) | (intro h; exact absurd ‹_› (by decide))
set_option maxRecDepth 100000 in
set_option maxHeartbeats 400000 in
theorem tL_withdraw {Z : Nat → Nat} {S : Nat → Option ow_Sh} {I : ow_I} {V : Nat → Nat → Value} {z x : Nat} {b : Int32} (h_x : au_S S x) (hX : au_V x I) (hb : 0 ≤ b ∧ tn b < tn (I (x + 1) 10)) : ow_Ch Z yL_withdraw cL_withdraw 3 (some .int) [(0, 5, 6, 169)] 11 1 6 [.ref x, .int b] (S, I, V, z) (fun r h1 => r = some (.int (L_withdraw x b I).1) ∧ ∃ z', z ≤ z' ∧ h1 = (S, (L_withdraw x b I).2, V, z')) := by
  refine ow_Ch.of rfl (Nat.le_of_ble_eq_true rfl) (fun X E G T9 F => ?_)
  have E : ow_E X RX120 cL_withdraw 3 (ow_rm 11 1 6) := E
  refine or_lv [(0, .ref x), (1, .int b)] rfl ?_
  refine or_aload_n E rfl dL_withdraw_0 ?_
  refine or_iload_n E rfl dL_withdraw_1 ?_
  refine or_xVH (st := []) [.int b] (cA_withdraw (Z := Z) h_x hX hb) E G T9 lk_120_174 dL_withdraw_2 h_x.1 rfl rfl rfl (Nat.le_refl _) (by decide) ⟨Nat.le_of_ble_eq_true rfl, Nat.le_of_ble_eq_true rfl⟩ (Nat.le_of_ble_eq_true rfl) (fun r h1 q => ?_) (fun c' h1 hc q => ?_)
  · obtain ⟨q1, q2, q3⟩ := q
    obtain ⟨rfl, rfl⟩ := q2 q1.symm
    exact or_iret E F dL_withdraw_5 (Nat.le_of_ble_eq_true rfl) (Nat.le_of_ble_eq_true rfl) (by
      unfold L_withdraw
      rw [if_pos q1.symm]
      exact ⟨rfl, z, Nat.le_refl _, rfl⟩)
  · obtain ⟨q1, q2, q3⟩ := q
    obtain ⟨-, z1, hz1, rfl⟩ := q3 (q1 ▸ hc)
    have hn : ¬ (A_withdraw x b I).1 = 0 := fun h => by rw [← q1] at h; exact absurd h (Nat.pos_iff_ne_zero.mp hc)
    rw [cwithdraw_c hn] at q1
    subst q1
    refine ⟨[], ⟨0, 5, 6, 169⟩, [], rfl, (fun z hz => by cases hz), by decide, by decide, cl_120_169, List.mem_of_getElem? (i := 1) rfl, fun q => ?_⟩
    refine or_astore_n E dL_withdraw_6 (by decide) ?_
    refine or_bipush (v := -100) E rfl dL_withdraw_7 ?_
    exact or_iret E F dL_withdraw_9 (Nat.le_of_ble_eq_true rfl) (Nat.le_of_ble_eq_true rfl) (by
      unfold L_withdraw
      rw [if_neg hn]
      exact ⟨rfl, z1, hz1, rfl⟩)
