theorem fl_10_48 : ow_fl RX10 48 10 7 := ⟨_, rfl, by decide, ow_T_in 560 (by decide +kernel) (by decide +kernel), ow_ok10⟩
theorem lk_10_334 : ow_lv RX10 334 yJ4_append_cf468 cJ4_append_cf468 2 (some (.object "java/lang/StringBuilder")) 1 := ⟨ow_T_in 1030 (by decide +kernel) (by decide +kernel), ow_T_in 1031 (by decide +kernel) (by decide +kernel), ow_T_in 1032 (by decide +kernel) (by decide +kernel), ow_T_in 13 (by decide +kernel) (by decide +kernel), ow_T_in 1033 (by decide +kernel) (by decide +kernel), ⟨by decide +kernel, by decide +kernel, by decide +kernel⟩⟩
theorem lk_10_338 : ow_lv RX10 338 yJ4_append_bf812 cJ4_append_bf812 2 (some (.object "java/lang/StringBuilder")) 1 := ⟨ow_T_in 1043 (by decide +kernel) (by decide +kernel), ow_T_in 824 (by decide +kernel) (by decide +kernel), ow_T_in 825 (by decide +kernel) (by decide +kernel), ow_T_in 13 (by decide +kernel) (by decide +kernel), ow_T_in 826 (by decide +kernel) (by decide +kernel), ⟨by decide +kernel, by decide +kernel, by decide +kernel⟩⟩
theorem lk_10_341 : ow_lv RX10 341 yJ4_length_8abf5 cJ4_length_8abf5 1 (some .int) 0 := ⟨ow_T_in 1044 (by decide +kernel) (by decide +kernel), ow_T_in 870 (by decide +kernel) (by decide +kernel), ow_T_in 2253 (by decide +kernel) (by decide +kernel), ow_T_in 13 (by decide +kernel) (by decide +kernel), ow_T_in 871 (by decide +kernel) (by decide +kernel), ⟨by decide +kernel, by decide +kernel, by decide +kernel⟩⟩
theorem lk_10_344 : ow_lv RX10 344 yJ4_charAt_5068e cJ4_charAt_5068e 2 (some .char) 1 := ⟨ow_T_in 1049 (by decide +kernel) (by decide +kernel), ow_T_in 1050 (by decide +kernel) (by decide +kernel), ow_T_in 1051 (by decide +kernel) (by decide +kernel), ow_T_in 13 (by decide +kernel) (by decide +kernel), ow_T_in 1052 (by decide +kernel) (by decide +kernel), ⟨by decide +kernel, by decide +kernel, by decide +kernel⟩⟩
theorem lk_10_348 : ow_lv RX10 348 yJ4_setLength_d00df cJ4_setLength_d00df 2 none 1 := ⟨ow_T_in 711 (by decide +kernel) (by decide +kernel), ow_T_in 712 (by decide +kernel) (by decide +kernel), ow_T_in 713 (by decide +kernel) (by decide +kernel), ow_T_in 13 (by decide +kernel) (by decide +kernel), ow_T_in 714 (by decide +kernel) (by decide +kernel), ⟨by decide +kernel, by decide +kernel, by decide +kernel⟩⟩
/-! THE OUTPUT: a list of naturals as text -/
def wl (f : Nat → Nat) : Nat → Nat × (Nat → Nat)
  | 0 => (0, fun _ => 0)
  | k + 1 => if 0 < k then ((wl f k).1 + 1 + sb_dg (f k), sb_cat (sb_cat (wl f k).2 (wl f k).1 (fun _ => 44)) ((wl f k).1 + 1) (sb_dec (f k))) else ((wl f k).1 + sb_dg (f k), sb_cat (wl f k).2 (wl f k).1 (sb_dec (f k)))
theorem wl_p {f : Nat → Nat} {k : Nat} (h : 0 < k) : wl f (k + 1) = ((wl f k).1 + 1 + sb_dg (f k), sb_cat (sb_cat (wl f k).2 (wl f k).1 (fun _ => 44)) ((wl f k).1 + 1) (sb_dec (f k))) := by
  rw [wl, if_pos h]
theorem wl_z {f : Nat → Nat} {k : Nat} (h : ¬ 0 < k) : wl f (k + 1) = ((wl f k).1 + sb_dg (f k), sb_cat (wl f k).2 (wl f k).1 (sb_dec (f k))) := by
  rw [wl, if_neg h]
theorem wl_le (f : Nat → Nat) : ∀ k, (wl f k).1 ≤ 11 * k := by
  intro k
  induction k with
  | zero => exact Nat.le_refl 0
  | succ k ih =>
    have h := (sb_dg_in (f k)).2
    by_cases q : 0 < k
    · rw [wl_p q]
      show (wl f k).1 + 1 + sb_dg (f k) ≤ _
      omega
    · rw [wl_z q]
      show (wl f k).1 + sb_dg (f k) ≤ _
      omega
theorem wl_mn (f : Nat → Nat) {i k : Nat} (h : i ≤ k) : (wl f i).1 ≤ (wl f k).1 := by
  induction k with
  | zero => exact Nat.le_of_eq (by rw [show i = 0 by omega])
  | succ k ih =>
    by_cases e : i = k + 1
    · rw [e]
      exact Nat.le_refl _
    · refine Nat.le_trans (ih (by omega)) ?_
      by_cases q : 0 < k
      · rw [wl_p q]
        show (wl f k).1 ≤ (wl f k).1 + 1 + sb_dg (f k)
        omega
      · rw [wl_z q]
        exact Nat.le_add_right _ _
theorem nI_sg {i : Nat} (h : i < 2 ^ 31) : nI i ≤ 0 ↔ i = 0 := by
  constructor
  · intro z
    have := (nI_leI h (by decide)).mp (show nI i ≤ nI 0 from z)
    omega
  · intro z
    rw [z]
    decide
set_option maxRecDepth 100000 in
set_option maxHeartbeats 400000 in
theorem cA_writeList {Z : Nat → Nat} {S : Nat → Option ow_Sh} {I : ow_I} {V : Nat → Nat → Value} {z x b n k a N : Nat} {t f : Nat → Nat} (h_x : au_S S x) (hX : sb_X (x + 562) b n t (S, I, V, z)) (hA : S a = some (.inr (.int, N, ow_n))) (hN : N ≤ 20) (hkN : k ≤ N) (hT : (wl f k).1 ≤ 59) (hf : ∀ j, j < k → I a j = nI (f j) ∧ f j < 2 ^ 31) : ow_Cx Z yX10_writeList cX10_writeList 4 none 6 41 5330 [.ref x, .ref a, .int (nI k)] (S, I, V, z) (sb_Q (x + 562) b (wl f k).1 (wl f k).2 (S, I, V, z) none) := by
  obtain ⟨K, hK⟩ : ∃ K : Nat → Option Value → ow_H → Prop, K = (sb_Q (x + 562) b (wl f k).1 (wl f k).2 (S, I, V, z) none) := ⟨_, rfl⟩
  rw [← hK]
  refine ow_Cx.of rfl (Nat.le_of_ble_eq_true rfl) (fun X E G F => ?_)
  have E : ow_E X RX10 cX10_writeList 4 (ow_rm 6 41 5330) := E
  refine or_ltz (fun hlt => ?_)
  have haz : a < z := hlt a _ hA
  have hxz : x < z := hlt x _ h_x.1
  have hao : a ≠ x + 562 := by
    intro e
    have h1 := hX.1
    unfold sb_S at h1
    dsimp only at h1
    rw [← e, hA] at h1
    cases h1
  have hab : a ≠ b := by
    intro e
    obtain ⟨-, -, -, -, m, h2, -⟩ := hX
    dsimp only at h2
    rw [← e, hA] at h2
    cases h2
  have fin : ∀ (cs sl : Nat) (lv : List (Nat × Value)) (b1 : Nat) (h1 : ow_H), cs ≤ 41 → sl ≤ 5330 → sb_X (x + 562) b1 (wl f k).1 (wl f k).2 h1 → sb_K (x + 562) b b1 (S, I, V, z) h1 → ow_W X cs sl h1 52 lv [] := by
    intro cs sl lv b1 h1 hc hs hX1 hK1
    exact or_xr E F (fun X' E' F' => or_vret E' F' dX10_writeList_52 hc hs (by rw [hK]; exact ⟨rfl, rfl, b1, hX1, hK1⟩))
  have L10 : ∀ (g i cs sl b1 : Nat) (S1 : Nat → Option ow_Sh) (I1 : ow_I) (V1 : Nat → Nat → Value) (z1 : Nat), k - i < g → i ≤ k → cs ≤ 1 + 2 * i → sl ≤ 130 * (1 + 2 * i) → sb_X (x + 562) b1 (wl f i).1 (wl f i).2 (S1, I1, V1, z1) → sb_K (x + 562) b b1 (S, I, V, z) (S1, I1, V1, z1) → ow_W X cs sl (S1, I1, V1, z1) 10 [(0, .ref x), (1, .ref a), (2, .int (nI k)), (3, .int (nI i))] [] := by
    intro g
    induction g with
    | zero => intro i cs sl b1 S1 I1 V1 z1 h; omega
    | succ g ih =>
      intro i cs sl b1 S1 I1 V1 z1 hg hi hcs hsl hX1 hK1
      have hw : (wl f i).1 ≤ 59 := Nat.le_trans (wl_mn f hi) hT
      have hA1 : S1 a = some (.inr (.int, N, ow_n)) := (hK1.2.2.1 a haz).trans hA
      have hS1 : S1 x = some (.inl (10, au_k x)) := (hK1.2.2.1 x hxz).trans h_x.1
      refine or_iload_n E rfl dX10_writeList_10 ?_
      refine or_iload_n E rfl dX10_writeList_11 ?_
      refine or_icmp_geN 52 E dX10_writeList_12 rfl (by omega) (by omega) (fun q => ?_) (fun q => ?_)
      · obtain rfl : i = k := by omega
        exact fin cs sl _ b1 _ (by omega) (by omega) hX1 hK1
      · have hfi := hf i (by omega)
        have hd := (sb_dg_in (f i)).2
        have hw1 : (wl f (i + 1)).1 ≤ 59 := Nat.le_trans (wl_mn f (by omega)) hT
        have H35 : ∀ (cs sl b2 n2 : Nat) (t2 : Nat → Nat) (S2 : Nat → Option ow_Sh) (I2 : ow_I) (V2 : Nat → Nat → Value) (z2 : Nat) (lv : List (Nat × Value)), cs + 1 ≤ 1 + 2 * (i + 1) → sl + 130 ≤ 130 * (1 + 2 * (i + 1)) → sb_X (x + 562) b2 n2 t2 (S2, I2, V2, z2) → sb_K (x + 562) b b2 (S, I, V, z) (S2, I2, V2, z2) → n2 + sb_dg (f i) ≤ 64 → wl f (i + 1) = (n2 + sb_dg (f i), sb_cat t2 n2 (sb_dec (f i))) → ow_W X cs sl (S2, I2, V2, z2) 35 [(0, .ref x), (1, .ref a), (2, .int (nI k)), (3, .int (nI i))] [] := by
          intro cs sl b2 n2 t2 S2 I2 V2 z2 lv hcs hsl hX2 hK2 hn2 hwl
          have hA2 : S2 a = some (.inr (.int, N, ow_n)) := (hK2.2.2.1 a haz).trans hA
          have hS2 : S2 x = some (.inl (10, au_k x)) := (hK2.2.2.1 x hxz).trans h_x.1
          have hI2 : I2 a = I a := (hK2.2.2.2 a haz hao hab).1
          refine or_aload_n E rfl dX10_writeList_35 ?_
          refine ot_getC E fl_10_48 dX10_writeList_36 hS2 rfl ?_
          refine or_aload_n E rfl dX10_writeList_39 ?_
          refine or_iload_n E rfl dX10_writeList_40 ?_
          refine ot_iald (j := i) E dX10_writeList_41 hA2 rfl rfl (by omega) (by omega) ?_
          rw [hI2, hfi.1]
          refine or_kV1 (cj4_appendI (Z := Z) hX2 hfi.2 hn2) E G F lk_10_338 dX10_writeList_42 hX2.1 rfl rfl (by decide) (by decide) ⟨by omega, by omega⟩ (Nat.le_of_ble_eq_true rfl) (fun r h1 q => ?_) (fun c' h1 hc' q => absurd q.1 (Nat.pos_iff_ne_zero.mp hc'))
          obtain ⟨-, rfl, b3, hX3, hK3⟩ := q
          obtain ⟨S3, I3, V3, z3⟩ := h1
          refine or_pop E rfl dX10_writeList_45 ?_
          refine or_iincN (c := 1) E dX10_writeList_46 rfl rfl (by decide) ?_
          refine or_goto 10 E dX10_writeList_49 rfl ?_
          refine or_lv [(0, .ref x), (1, .ref a), (2, .int (nI k)), (3, .int (nI (i + 1)))] rfl ?_
          exact ih (i + 1) _ _ b3 S3 I3 V3 z3 (by omega) (by omega) hcs hsl (by rw [hwl]; exact hX3) (hK2.tr hK3)
        refine or_iload_n E rfl dX10_writeList_15 ?_
        refine or_aload_n E rfl dX10_writeList_16 ?_
        refine or_alen E dX10_writeList_17 hA1 ?_
        refine or_icmp_geN 52 E dX10_writeList_18 rfl (by omega) (by omega) (fun q => absurd q (by omega)) (fun _ => ?_)
        refine or_iload_n E rfl dX10_writeList_21 ?_
        by_cases h0 : 0 < i
        · refine or_if_le 35 E dX10_writeList_22 rfl (fun q => absurd ((nI_sg (by omega)).mp q) (by omega)) (fun _ => ?_)
          refine or_aload_n E rfl dX10_writeList_25 ?_
          refine ot_getC E fl_10_48 dX10_writeList_26 hS1 rfl ?_
          refine or_bipush (v := nI 44) E rfl dX10_writeList_29 ?_
          refine or_kV1 (cj4_appendC (Z := Z) (ch := 44) hX1 (by omega) (by decide)) E G F lk_10_334 dX10_writeList_31 hX1.1 rfl rfl (by decide) (by decide) ⟨by omega, by omega⟩ (Nat.le_of_ble_eq_true rfl) (fun r h1 q => ?_) (fun c' h1 hc' q => absurd q.1 (Nat.pos_iff_ne_zero.mp hc'))
          obtain ⟨-, rfl, b3, hX3, hK3⟩ := q
          obtain ⟨S3, I3, V3, z3⟩ := h1
          refine or_pop E rfl dX10_writeList_34 ?_
          exact H35 _ _ b3 _ _ S3 I3 V3 z3 [] (by omega) (by omega) hX3 (hK1.tr hK3) (by rw [wl_p h0] at hw1; dsimp only at hw1; omega) (wl_p h0)
        · refine or_if_le 35 E dX10_writeList_22 rfl (fun _ => ?_) (fun q => absurd ((nI_sg (by omega)).mpr (by omega)) q)
          exact H35 _ _ b1 _ _ S1 I1 V1 z1 [] (by omega) (by omega) hX1 hK1 (by rw [wl_z h0] at hw1; dsimp only at hw1; omega) (wl_z h0)
  refine or_lv [(0, .ref x), (1, .ref a), (2, .int (nI k))] rfl ?_
  refine or_aload_n E rfl dX10_writeList_0 ?_
  refine ot_getC E fl_10_48 dX10_writeList_1 h_x.1 rfl ?_
  refine or_iconst (v := nI 0) E rfl dX10_writeList_4 ?_
  refine or_kV1 (cj4_setLength0 (Z := Z) hX (fun _ => 0)) E G F lk_10_348 dX10_writeList_5 hX.1 rfl rfl (by decide) (by decide) ⟨by decide, by decide⟩ (Nat.le_of_ble_eq_true rfl) (fun r h1 q => ?_) (fun c' h1 hc' q => absurd q.1 (Nat.pos_iff_ne_zero.mp hc'))
  obtain ⟨-, rfl, b1, hX1, hK1⟩ := q
  obtain ⟨S1, I1, V1, z1⟩ := h1
  refine or_iconst (v := nI 0) E rfl dX10_writeList_8 ?_
  refine or_istore_n E dX10_writeList_9 (by decide) ?_
  refine or_lv [(0, .ref x), (1, .ref a), (2, .int (nI k)), (3, .int (nI 0))] rfl ?_
  exact L10 (k + 1) 0 _ _ b1 S1 I1 V1 z1 (by omega) (Nat.zero_le _) (by decide) (by decide) hX1 hK1
set_option maxRecDepth 100000 in
set_option maxHeartbeats 400000 in
theorem cA_outputByte {Z : Nat → Nat} {S : Nat → Option ow_Sh} {I : ow_I} {V : Nat → Nat → Value} {z x b n : Nat} {t : Nat → Nat} {w : Int32} (h_x : au_S S x) (hX : sb_X (x + 562) b n t (S, I, V, z)) : ow_Cx Z yX10_outputByte cX10_outputByte 2 (some .int) 6 0 0 [.ref x, .int w] (S, I, V, z) (ox_s S V z 0 (some (.int (if 0 ≤ w ∧ tn w < n then nI (t (tn w)) else -1))) I) := by
  refine ow_Cx.off rfl (Nat.le_of_ble_eq_true rfl) (fun X K E G F hk => ?_)
  have E : ow_E X RX10 cX10_outputByte 2 (ow_rm 6 0 0) := E
  have hn : n ≤ 130 := by
    obtain ⟨-, -, -, -, m, -, h1, h2, -⟩ := hX
    omega
  refine or_lv [(0, .ref x), (1, .int w)] rfl ?_
  have no : ¬ (0 ≤ w ∧ tn w < n) → ∀ lv, ow_W X 0 0 (S, I, V, z) 15 lv [] := by
    intro q lv
    rw [if_neg q] at hk
    refine or_iconst (v := -1) E rfl dX10_outputByte_15 ?_
    exact or_xr E F (fun X' E' F' => or_iret E' F' dX10_outputByte_16 (Nat.le_of_ble_eq_true rfl) (Nat.le_of_ble_eq_true rfl) (hk.1 rfl))
  refine or_iload_n E rfl dX10_outputByte_0 ?_
  refine or_if_lt 15 E dX10_outputByte_1 rfl (fun q => no (fun z => Int32.not_lt.mpr z.1 q) _) (fun q => ?_)
  have h0 : 0 ≤ w := Int32.not_lt.mp q
  refine or_iload_n E rfl dX10_outputByte_4 ?_
  refine or_top (y := nI (tn w)) (nI_tn h0).symm ?_
  refine or_aload_n E rfl dX10_outputByte_5 ?_
  refine ot_getC E fl_10_48 dX10_outputByte_6 h_x.1 rfl ?_
  refine or_kV0 (cj4_length (Z := Z) hX) E G F lk_10_341 dX10_outputByte_9 hX.1 rfl rfl (by decide) (by decide) ⟨by decide, by decide⟩ (Nat.le_of_ble_eq_true rfl) (fun r h1 q => ?_) (fun c' h1 hc' q => absurd q.1 (Nat.pos_iff_ne_zero.mp hc'))
  obtain ⟨rfl, rfl⟩ := q.2.1 rfl
  refine or_icmp_ltN 17 E dX10_outputByte_12 rfl (tn_lt _) (by omega) (fun q1 => ?_) (fun q1 => no (fun z => q1 z.2) _)
  rw [if_pos ⟨h0, q1⟩] at hk
  refine or_aload_n E rfl dX10_outputByte_17 ?_
  refine ot_getC E fl_10_48 dX10_outputByte_18 h_x.1 rfl ?_
  refine or_iload_n E rfl dX10_outputByte_21 ?_
  refine or_top (y := nI (tn w)) (nI_tn h0).symm ?_
  refine or_kV1 (cj4_charAt (Z := Z) hX q1) E G F lk_10_344 dX10_outputByte_22 hX.1 rfl rfl (by decide) (by decide) ⟨by decide, by decide⟩ (Nat.le_of_ble_eq_true rfl) (fun r h1 q => ?_) (fun c' h1 hc' q => absurd q.1 (Nat.pos_iff_ne_zero.mp hc'))
  obtain ⟨rfl, rfl⟩ := q.2.1 rfl
  exact or_xr E F (fun X' E' F' => or_iret E' F' dX10_outputByte_25 (Nat.le_of_ble_eq_true rfl) (Nat.le_of_ble_eq_true rfl) (hk.1 rfl))
