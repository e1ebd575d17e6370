theorem lk_105_108 : ow_lt RX105 108 yJ7_copyOf_9075b cJ7_copyOf_9075b 3 (some (.array .byte)) 2 := ⟨ow_T_in 608 (by decide +kernel) (by decide +kernel), ow_T_in 609 (by decide +kernel) (by decide +kernel), ow_T_in 20 (by decide +kernel) (by decide +kernel), ow_T_in 610 (by decide +kernel) (by decide +kernel), ⟨by decide +kernel, by decide +kernel, by decide +kernel⟩⟩
/-! STRINGBUILDER: its text, and what a call leaves as it was -/
def sb_X (o b n : Nat) (t : Nat → Nat) (h : ow_H) : Prop := sb_S h.1 o ∧ h.2.2.1 o 0 = .ref b ∧ h.2.1 o 1 = 0 ∧ h.2.1 o 3 = nI n ∧ ∃ m, h.1 b = some (.inr (.byte, m, ow_n)) ∧ n ≤ m ∧ m ≤ 602 ∧ sb_Lat t n (h.2.1 b) ∧ sb_Fit (h.2.1 b)
def sb_K (o b b1 : Nat) (h h1 : ow_H) : Prop := h.2.2.2 ≤ h1.2.2.2 ∧ (b1 = b ∨ h.2.2.2 ≤ b1) ∧ (∀ a, a < h.2.2.2 → h1.1 a = h.1 a) ∧ ∀ a, a < h.2.2.2 → a ≠ o → a ≠ b → h1.2.1 a = h.2.1 a ∧ h1.2.2.1 a = h.2.2.1 a
theorem sb_K.rf {o b : Nat} {h : ow_H} : sb_K o b b h h := ⟨Nat.le_refl _, Or.inl rfl, fun _ _ => rfl, fun _ _ _ _ => ⟨rfl, rfl⟩⟩
theorem sb_K.tr {o b b1 b2 : Nat} {h h1 h2 : ow_H} (k1 : sb_K o b b1 h h1) (k2 : sb_K o b1 b2 h1 h2) : sb_K o b b2 h h2 := by
  obtain ⟨a1, a2, a3, a4⟩ := k1
  obtain ⟨c1, c2, c3, c4⟩ := k2
  refine ⟨Nat.le_trans a1 c1, by omega, fun a ha => (c3 a (by omega)).trans (a3 a ha), fun a ha h0 hb => ?_⟩
  have h3 := c4 a (by omega) h0 (by omega)
  have h4 := a4 a ha h0 hb
  exact ⟨h3.1.trans h4.1, h3.2.trans h4.2⟩
/-- writes at the object and at its bytes -/
theorem sb_K.wr {o b b1 : Nat} {h : ow_H} {S : Nat → Option ow_Sh} {I J : ow_I} {V : Nat → Nat → Value} {z : Nat} (k1 : sb_K o b b1 h (S, I, V, z)) (hJ : ∀ a, a ≠ o → a ≠ b1 → J a = I a) : sb_K o b b1 h (S, J, V, z) :=
  k1.tr ⟨Nat.le_refl _, Or.inl rfl, fun _ _ => rfl, fun a _ h0 hb => ⟨hJ a h0 hb, rfl⟩⟩
theorem sb_ne {o b n : Nat} {t : Nat → Nat} {h : ow_H} (hX : sb_X o b n t h) : o ≠ b := by
  intro e
  obtain ⟨h1, -, -, -, m, h2, -⟩ := hX
  unfold sb_S at h1
  rw [e, h2] at h1
  cases h1
section SBW
variable {X : ow_X} {cs sl : Nat} {pc : Nat} {lv : List (Nat × Value)} {st : List Value} {own : String} {cc : ByteArray} {nL : Nat} {Z : Nat → Nat} {h h0 : ow_H} {K : Nat → Option Value → ow_H → Prop} {kR mcR msR : Nat} {retR : Option FieldType} {nmR : String}
variable {y : MethodName} {cy : ByteArray} {n idx k mc ms : Nat} {ret : Option FieldType} {Kc : Nat → Option Value → ow_H → Prop} {b ci : Nat} {κ : Nat → Option (Option Value)} {r0 : vw_C}
theorem or_kD0 (hC : ow_Cx Z y cy n ret k mc ms [.ref b] h Kc) (E : ow_E X own cc nL (ow_rm kR mcR msR)) (G : og_G X Z) (F : ox_F X h0 K mcR msR retR nmR) (L : ow_ld own idx y cy n ret 0) (d : decode cc pc = .ok (.invokevirtual idx, 3)) (hS : h.1 b = some (.inl (ci, κ))) (hc : ow_cl[ci]? = some r0) (hsel : ow_sel r0.1 y) (hk : k + 1 ≤ kR) (hn2 : n ≤ 20) (hm : cs + mc ≤ mcR ∧ sl + ms ≤ msR) (hst : (st.map fun v => v.category).sum ≤ 8) (kk : ∀ (r : Option Value) (h1 : ow_H), Kc 0 r h1 → ow_W X (cs + mc) (sl + ms) h1 (pc + 3) lv (r.toList ++ st)) (kx : ∀ (c' : Nat) (h1 : ow_H), 0 < c' → Kc c' none h1 → K c' none h1) : ow_W X cs sl h pc lv (.ref b :: st) := or_xVd [] hC E G F L d hS hc hsel rfl hk hn2 hm hst kk kx
theorem or_kD1 {x0 : Value} (hC : ow_Cx Z y cy n ret k mc ms [.ref b, x0] h Kc) (E : ow_E X own cc nL (ow_rm kR mcR msR)) (G : og_G X Z) (F : ox_F X h0 K mcR msR retR nmR) (L : ow_ld own idx y cy n ret 1) (d : decode cc pc = .ok (.invokevirtual idx, 3)) (hS : h.1 b = some (.inl (ci, κ))) (hc : ow_cl[ci]? = some r0) (hsel : ow_sel r0.1 y) (hk : k + 1 ≤ kR) (hn2 : n ≤ 20) (hm : cs + mc ≤ mcR ∧ sl + ms ≤ msR) (hst : (st.map fun v => v.category).sum ≤ 8) (kk : ∀ (r : Option Value) (h1 : ow_H), Kc 0 r h1 → ow_W X (cs + mc) (sl + ms) h1 (pc + 3) lv (r.toList ++ st)) (kx : ∀ (c' : Nat) (h1 : ow_H), 0 < c' → Kc c' none h1 → K c' none h1) : ow_W X cs sl h pc lv (x0 :: .ref b :: st) := or_xVd [x0] hC E G F L d hS hc hsel rfl hk hn2 hm hst kk kx
theorem or_kW0 (hC : ow_Cx Z y cy n ret k mc ms [.ref b] h Kc) (E : ow_E X own cc nL (ow_rm kR mcR msR)) (G : og_G X Z) (F : ox_F X h0 K mcR msR retR nmR) (L : ow_lw own idx y cy n ret 0) (d : decode cc pc = .ok (.invokespecial idx, 3)) (hS : h.1 b = some (.inl (ci, κ))) (hc : ow_cl[ci]? = some r0) (hk : k + 1 ≤ kR) (hn2 : n ≤ 20) (hm : cs + mc ≤ mcR ∧ sl + ms ≤ msR) (hst : (st.map fun v => v.category).sum ≤ 8) (kk : ∀ (r : Option Value) (h1 : ow_H), Kc 0 r h1 → ow_W X (cs + mc) (sl + ms) h1 (pc + 3) lv (r.toList ++ st)) (kx : ∀ (c' : Nat) (h1 : ow_H), 0 < c' → Kc c' none h1 → K c' none h1) : ow_W X cs sl h pc lv (.ref b :: st) := or_xSU [] hC E G F L d hS hc rfl hk hn2 hm hst kk kx
theorem or_kW1 {x0 : Value} (hC : ow_Cx Z y cy n ret k mc ms [.ref b, x0] h Kc) (E : ow_E X own cc nL (ow_rm kR mcR msR)) (G : og_G X Z) (F : ox_F X h0 K mcR msR retR nmR) (L : ow_lw own idx y cy n ret 1) (d : decode cc pc = .ok (.invokespecial idx, 3)) (hS : h.1 b = some (.inl (ci, κ))) (hc : ow_cl[ci]? = some r0) (hk : k + 1 ≤ kR) (hn2 : n ≤ 20) (hm : cs + mc ≤ mcR ∧ sl + ms ≤ msR) (hst : (st.map fun v => v.category).sum ≤ 8) (kk : ∀ (r : Option Value) (h1 : ow_H), Kc 0 r h1 → ow_W X (cs + mc) (sl + ms) h1 (pc + 3) lv (r.toList ++ st)) (kx : ∀ (c' : Nat) (h1 : ow_H), 0 < c' → Kc c' none h1 → K c' none h1) : ow_W X cs sl h pc lv (x0 :: .ref b :: st) := or_xSU [x0] hC E G F L d hS hc rfl hk hn2 hm hst kk kx
theorem or_kV0 (hC : ow_Cx Z y cy n ret k mc ms [.ref b] h Kc) (E : ow_E X own cc nL (ow_rm kR mcR msR)) (G : og_G X Z) (F : ox_F X h0 K mcR msR retR nmR) (L : ow_lv own idx y cy n ret 0) (d : decode cc pc = .ok (.invokevirtual idx, 3)) (hS : h.1 b = some (.inl (ci, κ))) (hc : ow_cl[ci]? = some r0) (hy : r0.1 = y.cls) (hk : k + 1 ≤ kR) (hn2 : n ≤ 20) (hm : cs + mc ≤ mcR ∧ sl + ms ≤ msR) (hst : (st.map fun v => v.category).sum ≤ 8) (kk : ∀ (r : Option Value) (h1 : ow_H), Kc 0 r h1 → ow_W X (cs + mc) (sl + ms) h1 (pc + 3) lv (r.toList ++ st)) (kx : ∀ (c' : Nat) (h1 : ow_H), 0 < c' → Kc c' none h1 → K c' none h1) : ow_W X cs sl h pc lv (.ref b :: st) := or_xV [] hC E G F L d hS hc hy rfl hk hn2 hm hst kk kx
theorem or_kV1 {x0 : Value} (hC : ow_Cx Z y cy n ret k mc ms [.ref b, x0] h Kc) (E : ow_E X own cc nL (ow_rm kR mcR msR)) (G : og_G X Z) (F : ox_F X h0 K mcR msR retR nmR) (L : ow_lv own idx y cy n ret 1) (d : decode cc pc = .ok (.invokevirtual idx, 3)) (hS : h.1 b = some (.inl (ci, κ))) (hc : ow_cl[ci]? = some r0) (hy : r0.1 = y.cls) (hk : k + 1 ≤ kR) (hn2 : n ≤ 20) (hm : cs + mc ≤ mcR ∧ sl + ms ≤ msR) (hst : (st.map fun v => v.category).sum ≤ 8) (kk : ∀ (r : Option Value) (h1 : ow_H), Kc 0 r h1 → ow_W X (cs + mc) (sl + ms) h1 (pc + 3) lv (r.toList ++ st)) (kx : ∀ (c' : Nat) (h1 : ow_H), 0 < c' → Kc c' none h1 → K c' none h1) : ow_W X cs sl h pc lv (x0 :: .ref b :: st) := or_xV [x0] hC E G F L d hS hc hy rfl hk hn2 hm hst kk kx
theorem or_kV2 {x0 x1 : Value} (hC : ow_Cx Z y cy n ret k mc ms [.ref b, x0, x1] h Kc) (E : ow_E X own cc nL (ow_rm kR mcR msR)) (G : og_G X Z) (F : ox_F X h0 K mcR msR retR nmR) (L : ow_lv own idx y cy n ret 2) (d : decode cc pc = .ok (.invokevirtual idx, 3)) (hS : h.1 b = some (.inl (ci, κ))) (hc : ow_cl[ci]? = some r0) (hy : r0.1 = y.cls) (hk : k + 1 ≤ kR) (hn2 : n ≤ 20) (hm : cs + mc ≤ mcR ∧ sl + ms ≤ msR) (hst : (st.map fun v => v.category).sum ≤ 8) (kk : ∀ (r : Option Value) (h1 : ow_H), Kc 0 r h1 → ow_W X (cs + mc) (sl + ms) h1 (pc + 3) lv (r.toList ++ st)) (kx : ∀ (c' : Nat) (h1 : ow_H), 0 < c' → Kc c' none h1 → K c' none h1) : ow_W X cs sl h pc lv (x1 :: x0 :: .ref b :: st) := or_xV [x0, x1] hC E G F L d hS hc hy rfl hk hn2 hm hst kk kx
theorem or_kT3 {x0 x1 x2 : Value} (hC : ow_Cx Z y cy n ret k mc ms [x0, x1, x2] h Kc) (E : ow_E X own cc nL (ow_rm kR mcR msR)) (G : og_G X Z) (F : ox_F X h0 K mcR msR retR nmR) (L : ow_lt own idx y cy n ret 3) (d : decode cc pc = .ok (.invokestatic idx, 3)) (hk : k + 1 ≤ kR) (hn2 : n ≤ 20) (hm : cs + mc ≤ mcR ∧ sl + ms ≤ msR) (hst : (st.map fun v => v.category).sum ≤ 8) (kk : ∀ (r : Option Value) (h1 : ow_H), Kc 0 r h1 → ow_W X (cs + mc) (sl + ms) h1 (pc + 3) lv (r.toList ++ st)) (kx : ∀ (c' : Nat) (h1 : ow_H), 0 < c' → Kc c' none h1 → K c' none h1) : ow_W X cs sl h pc lv (x2 :: x1 :: x0 :: st) := or_xT [x0, x1, x2] hC E G F L d rfl hk hn2 hm hst kk kx
end SBW
theorem ld_105_104 : ow_ld RX105 104 yJ5_newCapacity_0f7a4 cJ5_newCapacity_0f7a4 6 (some .int) 1 := ⟨ow_T_in 595 (by decide +kernel) (by decide +kernel), ow_T_in 1303 (by decide +kernel) (by decide +kernel), ow_T_in 597 (by decide +kernel) (by decide +kernel), ow_T_in 12 (by decide +kernel) (by decide +kernel), ow_T_in 598 (by decide +kernel) (by decide +kernel), ⟨by decide, by decide, by decide +kernel⟩⟩
theorem ld_105_100 : ow_ld RX105 100 yJ5_ensureCapacityInternal_d00df cJ5_ensureCapacityInternal_d00df 3 none 1 := ⟨ow_T_in 591 (by decide +kernel) (by decide +kernel), ow_T_in 1302 (by decide +kernel) (by decide +kernel), ow_T_in 593 (by decide +kernel) (by decide +kernel), ow_T_in 12 (by decide +kernel) (by decide +kernel), ow_T_in 594 (by decide +kernel) (by decide +kernel), ⟨by decide, by decide, by decide +kernel⟩⟩
theorem ld_105_83 : ow_ld RX105 83 yJ5_isLatin1_aae02 cJ5_isLatin1_aae02 1 (some .boolean) 0 := ⟨ow_T_in 622 (by decide +kernel) (by decide +kernel), ow_T_in 624 (by decide +kernel) (by decide +kernel), ow_T_in 623 (by decide +kernel) (by decide +kernel), ow_T_in 12 (by decide +kernel) (by decide +kernel), ow_T_in 626 (by decide +kernel) (by decide +kernel), ⟨by decide, by decide, by decide +kernel⟩⟩
theorem sel_nc : ow_sel RJ4 yJ5_newCapacity_0f7a4 := fun s args hts => hts _ (ow_T_2 0 (by decide +kernel))
theorem sel_en : ow_sel RJ4 yJ5_ensureCapacityInternal_d00df := fun s args hts => hts _ (ow_T_2 1 (by decide +kernel))
theorem sel_l1 : ow_sel RJ4 yJ5_isLatin1_aae02 := fun s args hts => hts _ (ow_T_in 625 (by decide +kernel) (by decide +kernel))
theorem fwb_0 : ∃ r : vw_C, ow_cl[12]? = some r ∧ (r.2.1 0).2.2.2 = false ∧ parseFieldDescriptor (r.2.1 0).2.2.1 = some (.array .byte) := ⟨_, rfl, rfl, by decide +kernel⟩
set_option maxRecDepth 100000 in
set_option maxHeartbeats 400000 in
theorem cj5_ensure {Z : Nat → Nat} {S : Nat → Option ow_Sh} {I : ow_I} {V : Nat → Nat → Value} {z o b n q : Nat} {t : Nat → Nat} (hX : sb_X o b n t (S, I, V, z)) (hq : q ≤ 300) : ow_Cx Z yJ5_ensureCapacityInternal_d00df cJ5_ensureCapacityInternal_d00df 3 none 3 1 602 [.ref o, .int (nI q)] (S, I, V, z) (fun c r h1 => c = 0 ∧ r = none ∧ ∃ b1 m1, sb_X o b1 n t h1 ∧ sb_K o b b1 (S, I, V, z) h1 ∧ h1.1 b1 = some (.inr (.byte, m1, ow_n)) ∧ q ≤ m1) := by
  obtain ⟨K, hK⟩ : ∃ K : Nat → Option Value → ow_H → Prop, K = (fun c r h1 => c = 0 ∧ r = none ∧ ∃ b1 m1, sb_X o b1 n t h1 ∧ sb_K o b b1 (S, I, V, z) h1 ∧ h1.1 b1 = some (.inr (.byte, m1, ow_n)) ∧ q ≤ m1) := ⟨_, rfl⟩
  rw [← hK]
  refine ow_Cx.of rfl (Nat.le_of_ble_eq_true rfl) (fun X E G F => ?_)
  have E : ow_E X RX105 cJ5_ensureCapacityInternal_d00df 3 (ow_rm 3 1 602) := E
  have hX0 := hX
  obtain ⟨hS, hb, hc, hn, m, hB, hnm, hm, hL, hf⟩ := hX
  dsimp only at hS hb hc hn hB hL hf
  have e1 : (nI q - nI m).toInt = (q : Int) - m := pk_sub_toInt (by omega) (by omega)
  refine or_ltz (fun hlt => ?_)
  have hbz : b ≠ z := by
    have := hlt b _ hB
    omega
  have hoz : o ≠ z := by
    have := hlt o _ hS
    omega
  refine or_lv [(0, .ref o), (1, .int (nI q))] rfl ?_
  refine or_aload_n E rfl dJ5_ensureCapacityInternal_d00df_0 ?_
  refine ot_getV E fl_105_15 dJ5_ensureCapacityInternal_d00df_1 hS rfl ?_
  rw [hb]
  refine or_alen E dJ5_ensureCapacityInternal_d00df_4 hB ?_
  refine or_aload_n E rfl dJ5_ensureCapacityInternal_d00df_5 ?_
  refine ot_getI E fl_105_22 dJ5_ensureCapacityInternal_d00df_6 hS rfl ?_
  rw [hc]
  refine or_ishr E dJ5_ensureCapacityInternal_d00df_9 ?_
  refine or_top (sb_shr0 _) ?_
  refine or_istore_n E dJ5_ensureCapacityInternal_d00df_10 (by decide) ?_
  refine or_iload_n E rfl dJ5_ensureCapacityInternal_d00df_11 ?_
  refine or_iload_n E rfl dJ5_ensureCapacityInternal_d00df_12 ?_
  refine or_isub E dJ5_ensureCapacityInternal_d00df_13 ?_
  by_cases h : q ≤ m
  · refine or_if_le 38 E dJ5_ensureCapacityInternal_d00df_14 rfl (fun _ => ?_) (fun z9 => absurd (by rw [Int32.le_iff_toInt_le, e1, Int32.toInt_zero]; omega) z9)
    exact or_xr E F (fun X' E' F' => or_vret E' F' dJ5_ensureCapacityInternal_d00df_38 (Nat.le_of_ble_eq_true rfl) (Nat.le_of_ble_eq_true rfl) (by rw [hK]; exact ⟨rfl, rfl, b, m, hX0, sb_K.rf, hB, h⟩))
  · refine or_if_le 38 E dJ5_ensureCapacityInternal_d00df_14 rfl (fun z9 => by rw [Int32.le_iff_toInt_le, e1, Int32.toInt_zero] at z9; omega) (fun _ => ?_)
    have hg := sb_cap_ge q m
    have hg2 := sb_cap_gem q m
    have hg3 : sb_cap q m ≤ 602 := by
      unfold sb_cap
      rw [if_neg h]
      split <;> omega
    have hS1 : ow_nS S z (.inr (.byte, sb_cap q m, ow_n)) o = some (.inl (12, sb_k)) := (ow_nS_o S _ hoz).trans hS
    refine or_aload_n E rfl dJ5_ensureCapacityInternal_d00df_17 ?_
    refine or_aload_n E rfl dJ5_ensureCapacityInternal_d00df_18 ?_
    refine ot_getV E fl_105_15 dJ5_ensureCapacityInternal_d00df_19 hS rfl ?_
    rw [hb]
    refine or_aload_n E rfl dJ5_ensureCapacityInternal_d00df_22 ?_
    refine or_iload_n E rfl dJ5_ensureCapacityInternal_d00df_23 ?_
    refine or_kD1 (cj5_newCapacity (Z := Z) hS hb hB hc (by omega) (by omega)) E G F ld_105_104 dJ5_ensureCapacityInternal_d00df_24 hS rfl sel_nc (by decide) (by decide) ⟨by decide, by decide⟩ (Nat.le_of_ble_eq_true rfl) (fun r h1 q2 => ?_) (fun c' h1 hc' q => absurd q.1 (Nat.pos_iff_ne_zero.mp hc'))
    obtain ⟨rfl, rfl⟩ := q2.2.1 rfl
    refine or_aload_n E rfl dJ5_ensureCapacityInternal_d00df_27 ?_
    refine ot_getI E fl_105_22 dJ5_ensureCapacityInternal_d00df_28 hS rfl ?_
    rw [hc]
    refine or_ishl E dJ5_ensureCapacityInternal_d00df_31 ?_
    refine or_top (sb_shl0 _) ?_
    refine or_fT2r (cj7_copyOf (Z := Z) hB hf (by omega) (by omega)) E G F lk_105_108 dJ5_ensureCapacityInternal_d00df_32 (by decide) (by decide) ⟨by decide, by decide⟩ (Nat.le_of_ble_eq_true rfl) (fun _ => ?_) (fun h => absurd h (Nat.lt_irrefl 0))
    refine or_putV E fl_105_15 (.array .byte) fwb_0 rfl rfl dJ5_ensureCapacityInternal_d00df_35 hS1 rfl ?_
    refine or_xr E F (fun X' E' F' => or_vret E' F' dJ5_ensureCapacityInternal_d00df_38 (Nat.le_of_ble_eq_true rfl) (Nat.le_of_ble_eq_true rfl) ?_)
    rw [hK]
    refine ⟨rfl, rfl, z, sb_cap q m, ⟨hS1, ow_u_s _ _ _ _, ?_, ?_, sb_cap q m, ow_nS_s S z _, by omega, hg3, ?_, ?_⟩, ⟨by show z ≤ z + 1; omega, Or.inr (Nat.le_refl _), fun a ha => ow_nS_o S _ (by have : a < z := ha; omega), fun a ha h0 hb9 => ?_⟩, ow_nS_s S z _, hg⟩
    · show ow_cp (ow_nI I z) b z m o 1 = 0
      rw [ow_cp_a hoz, ow_nI_o I hoz]
      exact hc
    · show ow_cp (ow_nI I z) b z m o 3 = nI n
      rw [ow_cp_a hoz, ow_nI_o I hoz]
      exact hn
    · exact sb_latKeep hL (fun j hj => by show ow_cp (ow_nI I z) b z m z j = I b j; rw [ow_cp_in (by omega), ow_nI_o I hbz])
    · intro j
      show fits .byte (.int (ow_cp (ow_nI I z) b z m z j)) = true
      by_cases hj : j < m
      · rw [ow_cp_in hj, ow_nI_o I hbz]
        exact hf j
      · rw [ow_cp_o (by omega), ow_nI_s]
        exact sb_fit0 j
    · have haz : a ≠ z := by
        have : a < z := ha
        omega
      refine ⟨?_, ?_⟩
      · show ow_cp (ow_nI I z) b z m a = I a
        rw [ow_cp_a haz, ow_nI_o I haz]
      · funext j
        exact ow_u_a _ _ _ _ h0 j
