theorem fl_7_20 : ow_fl RX7 20 7 1 := ⟨_, rfl, by decide, ow_T_in 307 (by decide +kernel) (by decide +kernel), ow_ok7⟩
theorem df_5 : ∀ k, k < 6 → defaultValue (tyX5 k) = ow_v (raw0 k) 0 .null := fun k hk => match k, hk with | 0, _ => rfl | 1, _ => rfl | 2, _ => rfl | 3, _ => rfl | 4, _ => rfl | 5, _ => rfl | k + 6, h => absurd h (by omega)
theorem df_3 : ∀ k, k < 5 → defaultValue (tyX3 k) = ow_v (raw3 k) 0 .null := fun k hk => match k, hk with | 0, _ => rfl | 1, _ => rfl | 2, _ => rfl | 3, _ => rfl | 4, _ => rfl | k + 5, h => absurd h (by omega)
def raw7 : Nat → Option (Option Value) := fun k => match k with
  | 0 => some none
  | 1 => some none
  | 2 => some none
  | _ => none
theorem df_7 : ∀ k, k < 7 → defaultValue (tyX7 k) = ow_v (raw7 k) 0 .null := fun k hk => match k, hk with | 0, _ => rfl | 1, _ => rfl | 2, _ => rfl | 3, _ => rfl | 4, _ => rfl | 5, _ => rfl | 6, _ => rfl | k + 7, h => absurd h (by omega)
theorem lo_7_3 : ow_lo RX7 3 := ⟨ow_T_in 249 (by decide +kernel) (by decide +kernel), ow_T_in 36 (by decide +kernel) (by decide +kernel), ow_T_in 37 (by decide +kernel) (by decide +kernel)⟩
theorem ln_5 : ow_ln yX5_init cX5_init 1 0 := ⟨ow_T_in 253 (by decide +kernel) (by decide +kernel), ow_T_in 8 (by decide +kernel) (by decide +kernel), ow_T_in 254 (by decide +kernel) (by decide +kernel), rfl, ⟨by decide, by decide, by decide +kernel⟩⟩
theorem ln_3 : ow_ln yX3_init cX3_init 1 0 := ⟨ow_T_in 284 (by decide +kernel) (by decide +kernel), ow_T_in 9 (by decide +kernel) (by decide +kernel), ow_T_in 285 (by decide +kernel) (by decide +kernel), rfl, ⟨by decide, by decide, by decide +kernel⟩⟩
theorem ff_7_0 : ∃ r : vw_C, ow_cl[7]? = some r ∧ (r.2.1 0).2.2.2 = true ∧ (r.2.1 0).1 = RX7 ∧ parseFieldDescriptor (r.2.1 0).2.2.1 = some (.object "LowWaterAuction$InputText") := ⟨_, rfl, rfl, by decide +kernel, by decide +kernel⟩
theorem ff_7_1 : ∃ r : vw_C, ow_cl[7]? = some r ∧ (r.2.1 1).2.2.2 = true ∧ (r.2.1 1).1 = RX7 ∧ parseFieldDescriptor (r.2.1 1).2.2.1 = some (.array (.object "LowWaterAuction$Command")) := ⟨_, rfl, rfl, by decide +kernel, by decide +kernel⟩
theorem ff_7_2 : ∃ r : vw_C, ow_cl[7]? = some r ∧ (r.2.1 2).2.2.2 = true ∧ (r.2.1 2).1 = RX7 ∧ parseFieldDescriptor (r.2.1 2).2.2.1 = some (.object "LowWaterAuction$Command") := ⟨_, rfl, rfl, by decide +kernel, by decide +kernel⟩
def cm0 : Nat → Int32 := fun j => if j = 0 then nI 5 else 0
theorem cm0_R : cm_R cm0 := ⟨⟨5, by decide, rfl⟩, by decide, by decide⟩
def pnK (Z : Nat → Nat) (S : Nat → Option ow_Sh) (I : ow_I) (V : Nat → Nat → Value) (p i : Nat) (S1 : Nat → Option ow_Sh) (I1 : ow_I) (V1 : Nat → Nat → Value) : Prop :=
  (bl S S1 p ∧ bl I I1 p ∧ bl V V1 p) ∧ (S1 p = some (.inl (7, ps_k p)) ∧ in_S S1 (p + 1) ∧ cm_S S1 (p + 4)) ∧ S1 (p + 3) = some (.inr (.object "LowWaterAuction$Command", 20, fun _ => some none)) ∧
  (∀ q, q < i → cm_S S1 (p + 6 + 2 * q) ∧ I1 (p + 6 + 2 * q) = cm0 ∧ V1 (p + 6 + 2 * q) 0 = .ref (Z 45) ∧ V1 (p + 3) q = .ref (p + 6 + 2 * q)) ∧ (∀ j, I1 (p + 1) j = 0) ∧ I1 p 3 = 0 ∧ I1 p 4 = 0 ∧ I1 p 5 = 0 ∧ I1 p 6 = -1
set_option maxRecDepth 100000 in
set_option maxHeartbeats 400000 in
theorem cQ_init {Z : Nat → Nat} {S : Nat → Option ow_Sh} {I : ow_I} {V : Nat → Nat → Value} {p : Nat} (hS : S p = some (.inl (7, raw7))) (hI : ∀ j, I p j = 0) : ow_Cx Z yX7_init cX7_init 2 none 2 45 820 [.ref p] (S, I, V, p + 1) (cn_K S I V p (p + 46) (fun S1 I1 V1 => ps_S S1 p ∧ cm_V p I1 ∧ (∀ i, i < 20 → I1 (p + 6 + 2 * i) 0 = nI 5 ∧ V1 (p + 6 + 2 * i) 0 = .ref (Z 45)) ∧ (∀ j, I1 (p + 1) j = 0) ∧ I1 p 5 = 0 ∧ I1 p 6 = -1)) := by
  refine ow_Cx.of rfl (Nat.le_of_ble_eq_true rfl) (fun X E G F => ?_)
  have E : ow_E X RX7 cX7_init 2 (ow_rm 2 45 820) := E
  refine or_lv [(0, .ref p)] rfl ?_
  have L42 : ∀ (n i : Nat) (S1 : Nat → Option ow_Sh) (I1 : ow_I) (V1 : Nat → Nat → Value), i ≤ 20 → 20 - i < n → pnK Z S I V p i S1 I1 V1 → ow_W X (5 + 2 * i) (540 + 14 * i) (S1, I1, V1, p + 6 + 2 * i) 42 [(0, .ref p), (1, .int (nI i))] [] := by
    intro n
    induction n with
    | zero => intro i S1 I1 V1 hi hn; omega
    | succ n ih =>
      intro i S1 I1 V1 hi hn hI1
      obtain ⟨⟨b1, b2, b3⟩, ⟨k1, k2, k3⟩, k4, k5, k6, k7⟩ := hI1
      refine or_iload_n E rfl dX7_init_42 ?_
      refine or_bipush (v := nI 20) E rfl dX7_init_43 ?_
      refine or_icmp_geN 67 E dX7_init_45 rfl (by omega) (by omega) (fun q45 => ?_) (fun q45 => ?_)
      · have hi : i = 20 := by omega
        subst hi
        refine or_reA (ps_cm p) k4 (fun k hk => (k5 k hk).2.2.2) ?_
        exact or_xr E F (fun X' E' F' => or_vret E' F' dX7_init_67 (Nat.le_of_ble_eq_true rfl) (Nat.le_of_ble_eq_true rfl) ⟨rfl, rfl, _, _, _, rfl, b1.nS (by omega), b2, b3, ⟨(ow_nS_o _ _ (by omega)).trans k1, ⟨(ow_nS_o _ _ (by omega)).trans k2.1, (ow_nS_o _ _ (by omega)).trans k2.2⟩, ow_nS_s _ _ _, ⟨(ow_nS_o _ _ (by omega)).trans k3.1, (ow_nS_o _ _ (by omega)).trans k3.2⟩, fun q hq => ⟨(ow_nS_o _ _ (by omega)).trans (k5 q hq).1.1, (ow_nS_o _ _ (by omega)).trans (k5 q hq).1.2⟩⟩, ⟨by rw [k7.2.1]; decide, by rw [k7.1]; decide, fun q hq => by rw [(k5 q hq).2.1]; exact cm0_R⟩, fun q hq => ⟨by rw [(k5 q hq).2.1]; rfl, (k5 q hq).2.2.1⟩, k6, k7.2.2⟩)
      · refine or_aload_n E rfl dX7_init_48 ?_
        refine ot_getC E fl_7_20 dX7_init_49 k1 rfl ?_
        refine or_iload_n E rfl dX7_init_52 ?_
        refine or_newO (f := fun _ => .null) (ci := 3) (κ := raw3) E (ow_T_in 280 (by decide +kernel) (by decide +kernel)) (ow_T_in 282 (by decide +kernel) (by decide +kernel)) (ow_T_in 9 (by decide +kernel) (by decide +kernel)) rfl ow_ok3 tyX3_ok df_3 dX7_init_53 (by omega) (by omega) ?_
        refine or_dup E rfl dX7_init_56 ?_
        refine or_xIN [] (cC_init (Z := Z) (ow_nS_s _ _ _)) E G F (og_16 G 4 rfl) ln_3 dX7_init_57 rfl (by decide) (by decide) ⟨by omega, by omega⟩ (Nat.le_of_ble_eq_true rfl) (fun r h1 q => ?_) (fun c' h1 hc' q => absurd q.1 (Nat.pos_iff_ne_zero.mp hc'))
        obtain ⟨rfl, rfl⟩ := q.2.1 rfl
        refine or_gho (a := p + 6 + 2 * i) (k := 0) (x := nI 5) ((ow_nS_o _ _ (by omega)).trans (ow_nS_s _ _ _)) rfl ?_
        refine or_aastV (j := i) E dX7_init_60 (n := 20) (a := p + 3) (κ := fun _ => some none) (κv := raw3) (ci := 3) ((ow_nS_o _ _ (by omega)).trans ((ow_nS_o _ _ (by omega)).trans (k4))) rfl ((ow_nS_o _ _ (by omega)).trans (ow_nS_s _ _ _)) rfl rfl (by omega) (Nat.le_of_ble_eq_true rfl) ?_
        refine or_iincN (c := 1) E dX7_init_61 rfl rfl (by decide) ?_
        refine or_goto 42 E dX7_init_64 rfl ?_
        refine or_re (ow_re_o (a := p + 6 + 2 * i) (κ1 := cm_k (p + 6 + 2 * i)) ((ow_nS_o _ _ (by omega)).trans (ow_nS_s _ _ _)) (fun k => ?_)) ?_
        · match k with
          | 0 => rfl
          | 1 => rfl
          | 2 => rfl
          | 3 =>
            show ow_u _ (p + 3) i _ (p + 6 + 2 * i) 3 = _
            rw [ow_u_a _ _ _ _ (by omega), ow_u_s]
            rfl
          | k + 4 => rfl
        refine or_lv [(0, .ref p), (1, .int (nI (i + 1)))] rfl ?_
        refine cn_at ?_ (ih (i + 1) _ _ _ (by omega) (by omega) ?_)
        · exact ⟨by omega, by omega, by omega⟩
        · refine ⟨⟨?_, ?_, ?_⟩, ⟨?_, ⟨?_, ?_⟩, ⟨?_, ?_⟩⟩, ?_, fun q hq => ?_, ?_, ?_⟩
          · repeat (first | exact bl.rf | assumption | refine bl.nS ?_ (by omega) | refine bl.nI ?_ (by omega) | refine bl.nV ?_ (by omega) | refine bl.u ?_ (by omega))
          · repeat (first | exact bl.rf | assumption | refine bl.nS ?_ (by omega) | refine bl.nI ?_ (by omega) | refine bl.nV ?_ (by omega) | refine bl.u ?_ (by omega))
          · repeat (first | exact bl.rf | assumption | refine bl.nS ?_ (by omega) | refine bl.nI ?_ (by omega) | refine bl.nV ?_ (by omega) | refine bl.u ?_ (by omega))
          · repeat (first | exact ow_nS_s _ _ _ | assumption | refine (ow_nS_o _ _ (by omega)).trans ?_)
          · exact (ow_nS_o _ _ (by omega)).trans ((ow_nS_o _ _ (by omega)).trans ((ow_nS_o _ _ (by omega)).trans k2.1))
          · exact (ow_nS_o _ _ (by omega)).trans ((ow_nS_o _ _ (by omega)).trans ((ow_nS_o _ _ (by omega)).trans k2.2))
          · exact (ow_nS_o _ _ (by omega)).trans ((ow_nS_o _ _ (by omega)).trans ((ow_nS_o _ _ (by omega)).trans k3.1))
          · exact (ow_nS_o _ _ (by omega)).trans ((ow_nS_o _ _ (by omega)).trans ((ow_nS_o _ _ (by omega)).trans k3.2))
          · repeat (first | exact ow_nS_s _ _ _ | assumption | refine (ow_nS_o _ _ (by omega)).trans ?_)
          · by_cases e : q = i
            · subst e
              refine ⟨⟨ow_nS_s _ _ _, ?_⟩, ?_, ?_, ow_u_s _ _ _ _⟩
              · repeat (first | exact ow_nS_s _ _ _ | assumption | refine (ow_nS_o _ _ (by omega)).trans ?_)
              · funext j
                by_cases e0 : j = 0
                · rw [e0, ow_u_s]
                  rfl
                · rw [ow_u_k _ _ _ _ e0, ow_nI_o _ (by omega), ow_nI_s]
                  exact (if_neg e0).symm
              · rw [ow_u_a _ _ _ _ (by omega), ow_u_k _ _ _ _ (by decide), ow_u_s]
            · obtain ⟨m1, m2, m3, m4⟩ := k5 q (by omega)
              refine ⟨⟨(ow_nS_o _ _ (by omega)).trans ((ow_nS_o _ _ (by omega)).trans ((ow_nS_o _ _ (by omega)).trans m1.1)), (ow_nS_o _ _ (by omega)).trans ((ow_nS_o _ _ (by omega)).trans ((ow_nS_o _ _ (by omega)).trans m1.2))⟩, ?_, ?_, ?_⟩
              · rw [← m2]
                funext j
                rw [ow_u_a _ _ _ _ (by omega), ow_nI_o _ (by omega), ow_nI_o _ (by omega)]
              · rw [ow_u_a _ _ _ _ (by omega), ow_u_a _ _ _ _ (by omega), ow_u_a _ _ _ _ (by omega), ow_nV_o _ _ (by omega)]
                exact m3
              · rw [ow_u_k _ _ _ _ e, ow_u_a _ _ _ _ (by omega), ow_u_a _ _ _ _ (by omega), ow_nV_o _ _ (by omega)]
                exact m4
          · intro j
            rw [ow_u_a _ _ _ _ (by omega), ow_nI_o _ (by omega), ow_nI_o _ (by omega)]
            exact k6 j
          · rw [ow_u_a _ _ _ _ (by omega), ow_u_a _ _ _ _ (by omega), ow_u_a _ _ _ _ (by omega), ow_u_a _ _ _ _ (by omega), ow_nI_o _ (by omega), ow_nI_o _ (by omega)]
            exact k7
  refine or_aload_n E rfl dX7_init_0 ?_
  refine or_oinit E lo_7_3 dX7_init_1 (by decide) (Nat.le_of_ble_eq_true rfl) ?_
  refine or_aload_n E rfl dX7_init_4 ?_
  refine or_newO (f := fun _ => .null) (ci := 5) (κ := raw0) E (ow_T_in 250 (by decide +kernel) (by decide +kernel)) (ow_T_in 251 (by decide +kernel) (by decide +kernel)) (ow_T_in 8 (by decide +kernel) (by decide +kernel)) rfl ow_ok5 tyX5_ok df_5 dX7_init_5 (by omega) (by omega) ?_
  refine or_dup E rfl dX7_init_8 ?_
  refine or_xIN [] (cU_init (Z := Z) (ow_nS_s _ _ _)) E G F (og_16 G 3 rfl) ln_5 dX7_init_9 rfl (by decide) (by decide) ⟨by omega, by omega⟩ (Nat.le_of_ble_eq_true rfl) (fun r h1 q => ?_) (fun c' h1 hc' q => absurd q.1 (Nat.pos_iff_ne_zero.mp hc'))
  obtain ⟨rfl, rfl⟩ := q.2.1 rfl
  refine ot_putF E F fl_7_12 (.object "LowWaterAuction$InputText") ff_7_0 rfl rfl dX7_init_12 ((ow_nS_o _ _ (by omega)).trans ((ow_nS_o _ _ (by omega)).trans (hS))) rfl ?_
  refine or_aload_n E rfl dX7_init_15 ?_
  refine or_bipush (v := nI 20) E rfl dX7_init_16 ?_
  refine or_newR (N := 20) E (ow_T_in 280 (by decide +kernel) (by decide +kernel)) (og_u_imp (og_17 G) (fun _ h => h _ (List.mem_of_getElem? (i := 3) rfl))) dX7_init_18 (Nat.le_of_ble_eq_true rfl) (by omega) (by omega) ?_
  refine ot_putF E F fl_7_20 (.array (.object "LowWaterAuction$Command")) ff_7_1 rfl rfl dX7_init_21 ((ow_nS_o _ _ (by omega)).trans ((ow_nS_o _ _ (by omega)).trans ((ow_nS_o _ _ (by omega)).trans (hS)))) rfl ?_
  refine or_aload_n E rfl dX7_init_24 ?_
  refine or_newO (f := fun _ => .null) (ci := 3) (κ := raw3) E (ow_T_in 280 (by decide +kernel) (by decide +kernel)) (ow_T_in 282 (by decide +kernel) (by decide +kernel)) (ow_T_in 9 (by decide +kernel) (by decide +kernel)) rfl ow_ok3 tyX3_ok df_3 dX7_init_25 (by omega) (by omega) ?_
  refine or_dup E rfl dX7_init_28 ?_
  refine or_xIN [] (cC_init (Z := Z) (ow_nS_s _ _ _)) E G F (og_16 G 4 rfl) ln_3 dX7_init_29 rfl (by decide) (by decide) ⟨by omega, by omega⟩ (Nat.le_of_ble_eq_true rfl) (fun r h1 q => ?_) (fun c' h1 hc' q => absurd q.1 (Nat.pos_iff_ne_zero.mp hc'))
  obtain ⟨rfl, rfl⟩ := q.2.1 rfl
  refine ot_putF E F fl_7_25 (.object "LowWaterAuction$Command") ff_7_2 rfl rfl dX7_init_32 ((ow_nS_o _ _ (by omega)).trans ((ow_nS_o _ _ (by omega)).trans ((ow_nS_o _ _ (by omega)).trans ((ow_nS_o _ _ (by omega)).trans ((ow_nS_o _ _ (by omega)).trans (hS)))))) rfl ?_
  refine or_aload_n E rfl dX7_init_35 ?_
  refine or_iconst (v := -1) E rfl dX7_init_36 ?_
  refine ot_putI E fl_7_29 fw_7_6 dX7_init_37 ((ow_nS_o _ _ (by omega)).trans ((ow_nS_o _ _ (by omega)).trans ((ow_nS_o _ _ (by omega)).trans ((ow_nS_o _ _ (by omega)).trans ((ow_nS_o _ _ (by omega)).trans (hS)))))) rfl ?_
  refine or_iconst (v := nI 0) E rfl dX7_init_40 ?_
  refine or_istore_n E dX7_init_41 (by decide) ?_
  refine or_re (ow_re_o (a := p) (κ1 := ps_k p) ((ow_nS_o _ _ (by omega)).trans ((ow_nS_o _ _ (by omega)).trans ((ow_nS_o _ _ (by omega)).trans ((ow_nS_o _ _ (by omega)).trans ((ow_nS_o _ _ (by omega)).trans (hS)))))) (fun k => ?_)) ?_
  · match k with
    | 0 => simp [ow_v, raw7, ps_k, ow_u, ow_nV, Nat.add_assoc]
    | 1 => simp [ow_v, raw7, ps_k, ow_u, ow_nV, Nat.add_assoc]
    | 2 => simp [ow_v, raw7, ps_k, ow_u, ow_nV, Nat.add_assoc]
    | k + 3 => rfl
  refine or_re (ow_re_o (a := p + 1) (ci := 5) (κ := raw0) (κ1 := in_k (p + 1)) ?_ (fun k => ?_)) ?_
  · repeat (first | exact ow_nS_s _ _ _ | assumption | refine (ow_nS_o _ _ (by omega)).trans ?_)
  · match k with
    | 0 => simp [ow_v, raw0, in_k, ow_u, ow_nV, Nat.add_assoc]
    | k + 1 => rfl
  refine or_re (ow_re_o (a := p + 4) (ci := 3) (κ := raw3) (κ1 := cm_k (p + 4)) ?_ (fun k => ?_)) ?_
  · repeat (first | exact ow_nS_s _ _ _ | assumption | refine (ow_nS_o _ _ (by omega)).trans ?_)
  · match k with
    | 0 => rfl
    | 1 => rfl
    | 2 => rfl
    | 3 => simp [ow_v, raw3, cm_k, ow_u, ow_nV, Nat.add_assoc]
    | k + 4 => rfl
  refine or_lv [(0, .ref p), (1, .int (nI 0))] rfl ?_
  refine cn_at ?_ (L42 21 0 _ _ _ (by omega) (by omega) ?_)
  · exact ⟨by omega, by omega, by omega⟩
  · refine ⟨⟨?_, ?_, ?_⟩, ⟨?_, ⟨?_, ?_⟩, ⟨?_, ?_⟩⟩, ?_, fun q hq => absurd hq (by omega), ?_, ?_⟩
    · repeat (first | exact bl.rf | assumption | refine bl.nS ?_ (by omega) | refine bl.nI ?_ (by omega) | refine bl.nV ?_ (by omega) | refine bl.u ?_ (by omega))
    · repeat (first | exact bl.rf | assumption | refine bl.nS ?_ (by omega) | refine bl.nI ?_ (by omega) | refine bl.nV ?_ (by omega) | refine bl.u ?_ (by omega))
    · repeat (first | exact bl.rf | assumption | refine bl.nS ?_ (by omega) | refine bl.nI ?_ (by omega) | refine bl.nV ?_ (by omega) | refine bl.u ?_ (by omega))
    · repeat (first | exact ow_nS_s _ _ _ | assumption | refine (ow_nS_o _ _ (by omega)).trans ?_)
    · repeat (first | exact ow_nS_s _ _ _ | assumption | refine (ow_nS_o _ _ (by omega)).trans ?_)
    · repeat (first | exact ow_nS_s _ _ _ | assumption | refine (ow_nS_o _ _ (by omega)).trans ?_)
    · repeat (first | exact ow_nS_s _ _ _ | assumption | refine (ow_nS_o _ _ (by omega)).trans ?_)
    · repeat (first | exact ow_nS_s _ _ _ | assumption | refine (ow_nS_o _ _ (by omega)).trans ?_)
    · repeat (first | exact ow_nS_s _ _ _ | assumption | refine (ow_nS_o _ _ (by omega)).trans ?_)
    · intro j
      simp [ow_u, ow_nI]
    · simp [ow_u, ow_nI, hI, Nat.add_assoc]
