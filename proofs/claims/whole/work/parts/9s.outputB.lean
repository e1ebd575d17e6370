theorem lk_10_331 : ow_lv RX10 331 yX10_writeList cX10_writeList 4 none 2 := ⟨ow_T_in 707 (by decide +kernel) (by decide +kernel), ow_T_in 709 (by decide +kernel) (by decide +kernel), ow_T_sel 17 (by decide +kernel) (by decide +kernel), ow_T_in 1 (by decide +kernel) (by decide +kernel), ow_T_in 710 (by decide +kernel) (by decide +kernel), ⟨by decide +kernel, by decide +kernel, by decide +kernel⟩⟩
set_option maxRecDepth 100000 in
set_option maxHeartbeats 400000 in
theorem cA_writeQueue {Z : Nat → Nat} {S : Nat → Option ow_Sh} {I : ow_I} {V : Nat → Nat → Value} {z x b n k : Nat} {t f : Nat → Nat} (h_x : au_S S x) (hX : sb_X (x + 562) b n t (S, I, V, z)) (hq : I (x + 1) 12 = nI k) (hk : k ≤ 20) (hT : (wl f k).1 ≤ 59) (hf : ∀ j, j < k → I (x + 1 + 4) j = nI (f j) ∧ f j < 2 ^ 31) : ow_Cx Z yX10_writeQueue cX10_writeQueue 1 (some .int) 7 41 5330 [.ref x] (S, I, V, z) (sb_Q (x + 562) b (wl f k).1 (wl f k).2 (S, I, V, z) (some (.int (nI (wl f k).1)))) := by
  obtain ⟨K, hK⟩ : ∃ K : Nat → Option Value → ow_H → Prop, K = (sb_Q (x + 562) b (wl f k).1 (wl f k).2 (S, I, V, z) (some (.int (nI (wl f k).1)))) := ⟨_, rfl⟩
  rw [← hK]
  refine ow_Cx.of rfl (Nat.le_of_ble_eq_true rfl) (fun X E G F => ?_)
  have E : ow_E X RX10 cX10_writeQueue 1 (ow_rm 7 41 5330) := E
  refine or_ltz (fun hlt => ?_)
  have hxz : x < z := hlt x _ h_x.1
  refine or_lv [(0, .ref x)] rfl ?_
  refine or_aload_n E rfl dX10_writeQueue_0 ?_
  refine or_aload_n E rfl dX10_writeQueue_1 ?_
  refine ot_getC E fl_10_10 dX10_writeQueue_2 h_x.1 rfl ?_
  refine ot_getC E fl_10_259 dX10_writeQueue_5 h_x.2.1.1 rfl ?_
  refine or_aload_n E rfl dX10_writeQueue_8 ?_
  refine ot_getC E fl_10_10 dX10_writeQueue_9 h_x.1 rfl ?_
  refine ot_getI E fl_10_178 dX10_writeQueue_12 h_x.2.1.1 rfl ?_
  rw [hq]
  refine or_kV2 (cA_writeList (Z := Z) h_x hX h_x.2.1.2.2.2.2.1 (by decide) hk hT hf) E G F lk_10_331 dX10_writeQueue_15 h_x.1 rfl rfl (by decide) (by decide) ⟨by decide, by decide⟩ (Nat.le_of_ble_eq_true rfl) (fun r h1 q => ?_) (fun c' h1 hc' q => absurd q.1 (Nat.pos_iff_ne_zero.mp hc'))
  obtain ⟨-, rfl, b1, hX1, hK1⟩ := q
  obtain ⟨S1, I1, V1, z1⟩ := h1
  have hS1 : S1 x = some (.inl (10, au_k x)) := (hK1.2.2.1 x hxz).trans h_x.1
  refine or_aload_n E rfl dX10_writeQueue_18 ?_
  refine ot_getC E fl_10_48 dX10_writeQueue_19 hS1 rfl ?_
  refine or_kV0 (cj4_length (Z := Z) hX1) E G F lk_10_341 dX10_writeQueue_22 hX1.1 rfl rfl (by decide) (by decide) ⟨by decide, by decide⟩ (Nat.le_of_ble_eq_true rfl) (fun r h1 q => ?_) (fun c' h1 hc' q => absurd q.1 (Nat.pos_iff_ne_zero.mp hc'))
  obtain ⟨rfl, rfl⟩ := q.2.1 rfl
  exact or_xr E F (fun X' E' F' => or_iret E' F' dX10_writeQueue_25 (Nat.le_of_ble_eq_true rfl) (Nat.le_of_ble_eq_true rfl) (by rw [hK]; exact ⟨rfl, rfl, b1, hX1, hK1⟩))
/-- a barrel's text: its list, and what became of it -/
def wb (p : Nat × (Nat → Nat)) (sg pr : Nat) : Nat × (Nat → Nat) := if sg = 2 then (p.1 + 1 + sb_dg pr, sb_cat (sb_cat p.2 p.1 (fun _ => 61)) (p.1 + 1) (sb_dec pr)) else if sg = 1 then (p.1 + 1, sb_cat p.2 p.1 (fun _ => 63)) else if sg = 3 then (p.1 + 1, sb_cat p.2 p.1 (fun _ => 120)) else p
def wb_K (x b : Nat) (w : Int32) (p : Nat × (Nat → Nat)) (S : Nat → Option ow_Sh) (I : ow_I) (V : Nat → Nat → Value) (z : Nat) : Nat → Option Value → ow_H → Prop := fun c r h1 => c = A_barrelAt x w I ∧ (c = 0 → sb_Q (x + 562) b p.1 p.2 (S, I, V, z) (some (.int (nI p.1))) 0 r h1) ∧ (0 < c → r = none ∧ ∃ z', z ≤ z' ∧ h1 = (S, I, V, z'))
set_option maxRecDepth 100000 in
set_option maxHeartbeats 400000 in
theorem cA_writeBarrel {Z : Nat → Nat} {S : Nat → Option ow_Sh} {I : ow_I} {V : Nat → Nat → Value} {z x b n k sg pr : Nat} {t f : Nat → Nat} {w : Int32} (h_x : au_S S x) (hV : k_V (x + 1) I) (hX : sb_X (x + 562) b n t (S, I, V, z)) (hB : A_barrelAt x w I = 0 → I (x + 1 + 11 + 2 * tn w) 1 = nI k ∧ k ≤ 9 ∧ (∀ j, j < k → I ((x + 1 + 11 + 2 * tn w) + 1) j = nI (f j) ∧ f j < 2 ^ 31) ∧ I (x + 1 + 11 + 2 * tn w) 7 = nI sg ∧ sg < 2 ^ 31 ∧ (wl f k).1 ≤ 50 ∧ (sg = 2 → I (x + 1 + 11 + 2 * tn w) 9 = nI pr ∧ pr < 2 ^ 31)) : ow_Cx Z yX10_writeBarrel cX10_writeBarrel 3 (some .int) 11 44 5596 [.ref x, .int w] (S, I, V, z) (wb_K x b w (wb (wl f k) sg pr) S I V z) := by
  obtain ⟨K, hK⟩ : ∃ K : Nat → Option Value → ow_H → Prop, K = (wb_K x b w (wb (wl f k) sg pr) S I V z) := ⟨_, rfl⟩
  rw [← hK]
  refine ow_Cx.of rfl (Nat.le_of_ble_eq_true rfl) (fun X E G F => ?_)
  have E : ow_E X RX10 cX10_writeBarrel 3 (ow_rm 11 44 5596) := E
  refine or_ltz (fun hlt => ?_)
  have hxz : x < z := hlt x _ h_x.1
  refine or_lv [(0, .ref x), (1, .int w)] rfl ?_
  refine or_aload_n E rfl dX10_writeBarrel_0 ?_
  refine or_iload_n E rfl dX10_writeBarrel_1 ?_
  refine or_fV1r (cA_barrelAt (Z := Z) h_x hV) E G F lk_10_262 dX10_writeBarrel_2 h_x.1 rfl rfl (by decide) (by decide) ⟨by decide, by decide⟩ (Nat.le_of_ble_eq_true rfl) (fun q2 => ?_) (fun q2 z' hz => by rw [hK]; exact ⟨rfl, fun h => absurd h (Nat.pos_iff_ne_zero.mp q2), fun _ => ⟨rfl, z', hz, rfl⟩⟩)
  obtain ⟨e1, hk9, hf, e7, hsg, hT, h9⟩ := hB q2
  have htn : tn w < 20 := ab_2 hV q2
  have hbr := mk_br2 h_x.2.1 htn
  have hbz : (x + 1 + 11 + 2 * tn w) < z := hlt _ _ hbr.1
  have hbb : (x + 1 + 11 + 2 * tn w) ≠ b := by
    intro e
    obtain ⟨-, -, -, -, m, h2, -⟩ := hX
    dsimp only at h2
    rw [← e, hbr.1] at h2
    cases h2
  refine or_astore_n E dX10_writeBarrel_5 (by decide) ?_
  refine or_aload_n E rfl dX10_writeBarrel_6 ?_
  refine or_aload_n E rfl dX10_writeBarrel_7 ?_
  refine ot_getC E fl_10_274 dX10_writeBarrel_8 hbr.1 rfl ?_
  refine or_aload_n E rfl dX10_writeBarrel_11 ?_
  refine ot_getI E fl_10_266 dX10_writeBarrel_12 hbr.1 rfl ?_
  rw [e1]
  refine or_kV2 (cA_writeList (Z := Z) h_x hX hbr.2 (by decide) hk9 (by omega) hf) E G F lk_10_331 dX10_writeBarrel_15 h_x.1 rfl rfl (by decide) (by decide) ⟨by decide, by decide⟩ (Nat.le_of_ble_eq_true rfl) (fun r h1 q => ?_) (fun c' h1 hc' q => absurd q.1 (Nat.pos_iff_ne_zero.mp hc'))
  obtain ⟨-, rfl, b1, hX1, hK1⟩ := q
  obtain ⟨S1, I1, V1, z1⟩ := h1
  have hw := hT
  have hd := (sb_dg_in pr).2
  have hS1 : S1 x = some (.inl (10, au_k x)) := (hK1.2.2.1 x hxz).trans h_x.1
  have hR1 : S1 (x + 1 + 11 + 2 * tn w) = some (.inl (1, br_k (x + 1 + 11 + 2 * tn w))) := (hK1.2.2.1 _ hbz).trans hbr.1
  have hJ1 : I1 (x + 1 + 11 + 2 * tn w) = I (x + 1 + 11 + 2 * tn w) := (hK1.2.2.2 _ hbz (by omega) hbb).1
  have fin : ∀ (cs sl b2 : Nat) (S2 : Nat → Option ow_Sh) (I2 : ow_I) (V2 : Nat → Nat → Value) (z2 : Nat) (lv : List (Nat × Value)), ow_g lv 0 = some (.ref x) → cs ≤ 44 → sl ≤ 5596 → sb_X (x + 562) b2 (wb (wl f k) sg pr).1 (wb (wl f k) sg pr).2 (S2, I2, V2, z2) → sb_K (x + 562) b b2 (S, I, V, z) (S2, I2, V2, z2) → ow_W X cs sl (S2, I2, V2, z2) 85 lv [] := by
    intro cs sl b2 S2 I2 V2 z2 lv l0 hc hs hX2 hK2
    have hS2 : S2 x = some (.inl (10, au_k x)) := (hK2.2.2.1 x hxz).trans h_x.1
    refine or_aload_n E l0 dX10_writeBarrel_85 ?_
    refine ot_getC E fl_10_48 dX10_writeBarrel_86 hS2 rfl ?_
    refine or_kV0 (cj4_length (Z := Z) hX2) E G F lk_10_341 dX10_writeBarrel_89 hX2.1 rfl rfl (by decide) (by decide) ⟨by omega, by omega⟩ (Nat.le_of_ble_eq_true rfl) (fun r h1 q => ?_) (fun c' h1 hc' q => absurd q.1 (Nat.pos_iff_ne_zero.mp hc'))
    obtain ⟨rfl, rfl⟩ := q.2.1 rfl
    exact or_xr E F (fun X' E' F' => or_iret E' F' dX10_writeBarrel_92 (by omega) (by omega) (by rw [hK]; exact ⟨q2.symm, fun _ => ⟨rfl, rfl, b2, hX2, hK2⟩, fun h => absurd h (Nat.lt_irrefl 0)⟩))
  refine or_aload_n E rfl dX10_writeBarrel_18 ?_
  refine ot_getI E fl_10_286 dX10_writeBarrel_19 hR1 rfl ?_
  rw [hJ1, e7]
  refine or_iconst (v := nI 2) E rfl dX10_writeBarrel_22 ?_
  by_cases h2 : sg = 2
  · refine or_icmp_neN 46 E dX10_writeBarrel_23 rfl hsg (by decide) (fun q => absurd h2 q) (fun _ => ?_)
    obtain ⟨e9, hpr⟩ := h9 h2
    refine or_aload_n E rfl dX10_writeBarrel_26 ?_
    refine ot_getC E fl_10_48 dX10_writeBarrel_27 hS1 rfl ?_
    refine or_bipush (v := nI 61) E rfl dX10_writeBarrel_30 ?_
    refine or_kV1 (cj4_appendC (Z := Z) (ch := 61) hX1 (by omega) (by decide)) E G F lk_10_334 dX10_writeBarrel_32 hX1.1 rfl rfl (by decide) (by decide) ⟨by decide, by decide⟩ (Nat.le_of_ble_eq_true rfl) (fun r h1 q => ?_) (fun c' h1 hc' q => absurd q.1 (Nat.pos_iff_ne_zero.mp hc'))
    obtain ⟨-, rfl, b2, hX2, hK2⟩ := q
    obtain ⟨S2, I2, V2, z2⟩ := h1
    have hX2 := hX2
    have hR2 : S2 (x + 1 + 11 + 2 * tn w) = some (.inl (1, br_k (x + 1 + 11 + 2 * tn w))) := ((hK1.tr hK2).2.2.1 _ hbz).trans hbr.1
    have hJ2 : I2 (x + 1 + 11 + 2 * tn w) = I (x + 1 + 11 + 2 * tn w) := ((hK1.tr hK2).2.2.2 _ hbz (by omega) hbb).1
    refine or_aload_n E rfl dX10_writeBarrel_35 ?_
    refine ot_getI E fl_10_295 dX10_writeBarrel_36 hR2 rfl ?_
    rw [hJ2, e9]
    refine or_kV1 (cj4_appendI (Z := Z) hX2 hpr (by omega)) E G F lk_10_338 dX10_writeBarrel_39 hX2.1 rfl rfl (by decide) (by decide) ⟨by decide, by decide⟩ (Nat.le_of_ble_eq_true rfl) (fun r h1 q => ?_) (fun c' h1 hc' q => absurd q.1 (Nat.pos_iff_ne_zero.mp hc'))
    obtain ⟨-, rfl, b3, hX3, hK3⟩ := q
    obtain ⟨S3, I3, V3, z3⟩ := h1
    refine or_pop E rfl dX10_writeBarrel_42 ?_
    refine or_goto 85 E dX10_writeBarrel_43 rfl ?_
    exact fin _ _ b3 S3 I3 V3 z3 _ rfl (by decide) (by decide) (by rw [wb, if_pos h2]; exact hX3) ((hK1.tr hK2).tr hK3)
  · refine or_icmp_neN 46 E dX10_writeBarrel_23 rfl hsg (by decide) (fun _ => ?_) (fun q => absurd q h2)
    refine or_aload_n E rfl dX10_writeBarrel_46 ?_
    refine ot_getI E fl_10_286 dX10_writeBarrel_47 hR1 rfl ?_
    rw [hJ1, e7]
    refine or_iconst (v := nI 1) E rfl dX10_writeBarrel_50 ?_
    by_cases h1 : sg = 1
    · refine or_icmp_neN 67 E dX10_writeBarrel_51 rfl hsg (by decide) (fun q => absurd h1 q) (fun _ => ?_)
      refine or_aload_n E rfl dX10_writeBarrel_54 ?_
      refine ot_getC E fl_10_48 dX10_writeBarrel_55 hS1 rfl ?_
      refine or_bipush (v := nI 63) E rfl dX10_writeBarrel_58 ?_
      refine or_kV1 (cj4_appendC (Z := Z) (ch := 63) hX1 (by omega) (by decide)) E G F lk_10_334 dX10_writeBarrel_60 hX1.1 rfl rfl (by decide) (by decide) ⟨by decide, by decide⟩ (Nat.le_of_ble_eq_true rfl) (fun r h1 q => ?_) (fun c' h1 hc' q => absurd q.1 (Nat.pos_iff_ne_zero.mp hc'))
      obtain ⟨-, rfl, b2, hX2, hK2⟩ := q
      obtain ⟨S2, I2, V2, z2⟩ := h1
      have hX2 := hX2
      refine or_pop E rfl dX10_writeBarrel_63 ?_
      refine or_goto 85 E dX10_writeBarrel_64 rfl ?_
      exact fin _ _ b2 S2 I2 V2 z2 _ rfl (by decide) (by decide) (by rw [wb, if_neg h2, if_pos h1]; exact hX2) (hK1.tr hK2)
    · refine or_icmp_neN 67 E dX10_writeBarrel_51 rfl hsg (by decide) (fun _ => ?_) (fun q => absurd q h1)
      refine or_aload_n E rfl dX10_writeBarrel_67 ?_
      refine ot_getI E fl_10_286 dX10_writeBarrel_68 hR1 rfl ?_
      rw [hJ1, e7]
      refine or_iconst (v := nI 3) E rfl dX10_writeBarrel_71 ?_
      by_cases h3 : sg = 3
      · refine or_icmp_neN 85 E dX10_writeBarrel_72 rfl hsg (by decide) (fun q => absurd h3 q) (fun _ => ?_)
        refine or_aload_n E rfl dX10_writeBarrel_75 ?_
        refine ot_getC E fl_10_48 dX10_writeBarrel_76 hS1 rfl ?_
        refine or_bipush (v := nI 120) E rfl dX10_writeBarrel_79 ?_
        refine or_kV1 (cj4_appendC (Z := Z) (ch := 120) hX1 (by omega) (by decide)) E G F lk_10_334 dX10_writeBarrel_81 hX1.1 rfl rfl (by decide) (by decide) ⟨by decide, by decide⟩ (Nat.le_of_ble_eq_true rfl) (fun r h1 q => ?_) (fun c' h1 hc' q => absurd q.1 (Nat.pos_iff_ne_zero.mp hc'))
        obtain ⟨-, rfl, b2, hX2, hK2⟩ := q
        obtain ⟨S2, I2, V2, z2⟩ := h1
        have hX2 := hX2
        refine or_pop E rfl dX10_writeBarrel_84 ?_
        exact fin _ _ b2 S2 I2 V2 z2 _ rfl (by decide) (by decide) (by rw [wb, if_neg h2, if_neg h1, if_pos h3]; exact hX2) (hK1.tr hK2)
      · refine or_icmp_neN 85 E dX10_writeBarrel_72 rfl hsg (by decide) (fun _ => ?_) (fun q => absurd q h3)
        exact fin _ _ b1 S1 I1 V1 z1 _ rfl (by decide) (by decide) (by rw [wb, if_neg h2, if_neg h1, if_neg h3]; exact hX1) hK1
