theorem df_4 : ∀ k, k < 3 → defaultValue (tyX4 k) = ow_v (raw0 k) 0 .null := fun k hk => match k, hk with | 0, _ => rfl | 1, _ => rfl | 2, _ => rfl | k + 3, h => absurd h (by omega)
theorem lo_4_3 : ow_lo RX4 3 := ⟨ow_T_in 230 (by decide +kernel) (by decide +kernel), ow_T_in 36 (by decide +kernel) (by decide +kernel), ow_T_in 37 (by decide +kernel) (by decide +kernel)⟩
theorem ff_4_0 : ∃ r : vw_C, ow_cl[4]? = some r ∧ (r.2.1 0).2.2.2 = true ∧ (r.2.1 0).1 = RX4 ∧ parseFieldDescriptor (r.2.1 0).2.2.1 = some (.array (.object "LowWaterAuction$Market")) := ⟨_, rfl, rfl, by decide +kernel, by decide +kernel⟩
def hnK (S : Nat → Option ow_Sh) (I : ow_I) (V : Nat → Nat → Value) (h i : Nat) (S1 : Nat → Option ow_Sh) (I1 : ow_I) (V1 : Nat → Nat → Value) : Prop :=
  (bl S S1 h ∧ bl I I1 h ∧ bl V V1 h) ∧ S1 h = some (.inl (4, hs_k h)) ∧ S1 (h + 1) = some (.inr (.object "LowWaterAuction$Market", 8, fun _ => some none)) ∧ (∀ q, q < i → mk_S S1 (h + 2 + 51 * q) ∧ k_V (h + 2 + 51 * q) I1 ∧ V1 (h + 1) q = .ref (h + 2 + 51 * q)) ∧ I1 h 1 = 0 ∧ I1 h 2 = 0
theorem mkS_up {S : Nat → Option ow_Sh} {a c : Nat} {sh : ow_Sh} (hc : c < a ∨ a + 51 ≤ c) (h : mk_S S a) : mk_S (ow_nS S c sh) a := by
  obtain ⟨h1, h2, h3, h4, h5, h6, h7⟩ := h
  exact ⟨(ow_nS_o _ _ (by omega)).trans h1, (ow_nS_o _ _ (by omega)).trans h2, (ow_nS_o _ _ (by omega)).trans h3, (ow_nS_o _ _ (by omega)).trans h4, (ow_nS_o _ _ (by omega)).trans h5, fun i hi => (ow_nS_o _ _ (by omega)).trans (h6 i hi), fun i hi => ⟨(ow_nS_o _ _ (by omega)).trans (h7 i hi).1, (ow_nS_o _ _ (by omega)).trans (h7 i hi).2⟩⟩
set_option maxRecDepth 100000 in
set_option maxHeartbeats 400000 in
theorem cH_init {Z : Nat → Nat} {S : Nat → Option ow_Sh} {I : ow_I} {V : Nat → Nat → Value} {h : Nat} (hS : S h = some (.inl (4, raw0))) (hI : ∀ j, I h j = 0) : ow_Cx Z yX4_init cX4_init 2 none 3 409 3816 [.ref h] (S, I, V, h + 1) (cn_K S I V h (h + 410) (fun S1 I1 _ => hs_S S1 h ∧ (∀ i, i < 8 → k_V (h + 2 + 51 * i) I1) ∧ I1 h 1 = 0 ∧ I1 h 2 = 0)) := by
  refine ow_Cx.of rfl (Nat.le_of_ble_eq_true rfl) (fun X E G F => ?_)
  have E : ow_E X RX4 cX4_init 2 (ow_rm 3 409 3816) := E
  refine or_lv [(0, .ref h)] rfl ?_
  have L15 : ∀ (n i : Nat) (S1 : Nat → Option ow_Sh) (I1 : ow_I) (V1 : Nat → Nat → Value), i ≤ 8 → 8 - i < n → hnK S I V h i S1 I1 V1 → ow_W X (1 + 51 * i) (8 + 476 * i) (S1, I1, V1, h + 2 + 51 * i) 15 [(0, .ref h), (1, .int (nI i))] [] := by
    intro n
    induction n with
    | zero => intro i S1 I1 V1 hi hn; omega
    | succ n ih =>
      intro i S1 I1 V1 hi hn hI1
      obtain ⟨⟨b1, b2, b3⟩, k1, k2, k3, k4⟩ := hI1
      refine or_iload_n E rfl dX4_init_15 ?_
      refine or_bipush (v := nI 8) E rfl dX4_init_16 ?_
      refine or_icmp_geN 40 E dX4_init_18 rfl (by omega) (by omega) (fun q18 => ?_) (fun q18 => ?_)
      · have hi : i = 8 := by omega
        subst hi
        refine or_reA (hs_m h) k2 (fun k hk => (k3 k hk).2.2) ?_
        exact or_xr E F (fun X' E' F' => or_vret E' F' dX4_init_40 (Nat.le_of_ble_eq_true rfl) (Nat.le_of_ble_eq_true rfl) ⟨rfl, rfl, _, _, _, rfl, b1.nS (by omega), b2, b3, ⟨(ow_nS_o _ _ (by omega)).trans k1, ow_nS_s _ _ _, fun q hq => mkS_up (by omega) (k3 q hq).1⟩, fun q hq => (k3 q hq).2.1, k4⟩)
      · refine or_aload_n E rfl dX4_init_21 ?_
        refine ot_getC E fl_4_11 dX4_init_22 k1 rfl ?_
        refine or_iload_n E rfl dX4_init_25 ?_
        refine or_newO (f := fun _ => .null) (ci := 6) (κ := raw6) E (ow_T_in 231 (by decide +kernel) (by decide +kernel)) (ow_T_in 39 (by decide +kernel) (by decide +kernel)) (ow_T_in 2 (by decide +kernel) (by decide +kernel)) rfl ow_ok6 tyX6_ok df_6 dX4_init_26 (by omega) (by omega) ?_
        refine or_dup E rfl dX4_init_29 ?_
        refine or_xI [] (cK_init (Z := Z) (ow_nS_s _ _ _) (fun j => ow_nI_s _ _ j)) E G F lz_4_17 dX4_init_30 rfl (by decide) (by decide) ⟨by omega, by omega⟩ (Nat.le_of_ble_eq_true rfl) (fun r h1 q => ?_) (fun c' h1 hc' q => absurd q.1 (Nat.pos_iff_ne_zero.mp hc'))
        obtain ⟨-, rfl, S2, I2, V2, rfl, c1, c2, c3, c4, c5⟩ := q
        refine or_aastV (j := i) E dX4_init_33 (n := 8) (a := h + 1) (κ := fun _ => some none) (κv := mk_k (h + 2 + 51 * i)) (ci := 6) ((c1 _ (by omega)).trans ((ow_nS_o _ _ (by omega)).trans k2)) rfl c4.1 rfl rfl (by omega) (Nat.le_of_ble_eq_true rfl) ?_
        refine or_iincN (c := 1) E dX4_init_34 rfl rfl (by decide) ?_
        refine or_goto 15 E dX4_init_37 rfl ?_
        refine or_lv [(0, .ref h), (1, .int (nI (i + 1)))] rfl ?_
        refine cn_at ?_ (ih (i + 1) _ _ _ (by omega) (by omega) ?_)
        · exact ⟨by omega, by omega, by omega⟩
        · refine ⟨⟨(b1.nS (by omega)).tr c1 (by omega), (b2.nI (by omega)).tr c2 (by omega), ((b3.nV (by omega)).tr c3 (by omega)).u (by omega)⟩, ?_, ?_, fun q hq => ?_, ?_⟩
          · exact (c1 _ (by omega)).trans ((ow_nS_o _ _ (by omega)).trans k1)
          · exact (c1 _ (by omega)).trans ((ow_nS_o _ _ (by omega)).trans k2)
          · by_cases e : q = i
            · subst e
              exact ⟨c4, c5, ow_u_s _ _ _ _⟩
            · obtain ⟨m1, m2, m3⟩ := k3 q (by omega)
              refine ⟨mkS_bl c1 (mkS_up (by omega) m1) (by omega), kV_eq m2 (fun b h1 h2 => (c2 b (by omega)).trans (ow_nI_o _ (by omega))), ?_⟩
              rw [ow_u_k _ _ _ _ e, c3 _ (by omega), ow_nV_o _ _ (by omega)]
              exact m3
          · rw [c2 _ (by omega), ow_nI_o _ (by omega)]
            exact k4
  refine or_aload_n E rfl dX4_init_0 ?_
  refine or_oinit E lo_4_3 dX4_init_1 (by decide) (Nat.le_of_ble_eq_true rfl) ?_
  refine or_aload_n E rfl dX4_init_4 ?_
  refine or_bipush (v := nI 8) E rfl dX4_init_5 ?_
  refine or_newR (N := 8) E (ow_T_in 231 (by decide +kernel) (by decide +kernel)) (og_u_imp (og_17 G) (fun _ h => h _ (List.mem_of_getElem? (i := 2) rfl))) dX4_init_7 (Nat.le_of_ble_eq_true rfl) (by omega) (by omega) ?_
  refine ot_putF E F fl_4_11 (.array (.object "LowWaterAuction$Market")) ff_4_0 rfl rfl dX4_init_10 ((ow_nS_o _ _ (by omega)).trans (hS)) rfl ?_
  refine or_iconst (v := nI 0) E rfl dX4_init_13 ?_
  refine or_istore_n E dX4_init_14 (by decide) ?_
  refine or_re (ow_re_o (a := h) (κ1 := hs_k h) ((ow_nS_o _ _ (by omega)).trans (hS)) (fun k => ?_)) ?_
  · match k with
    | 0 => simp [ow_v, raw0, hs_k, ow_u, ow_nV, Nat.add_assoc]
    | k + 1 => rfl
  refine or_lv [(0, .ref h), (1, .int (nI 0))] rfl ?_
  refine cn_at ?_ (L15 9 0 _ _ _ (by omega) (by omega) ?_)
  · exact ⟨by omega, by omega, by omega⟩
  · refine ⟨⟨?_, ?_, ?_⟩, ?_, ?_, fun q hq => absurd hq (by omega), ?_⟩
    · repeat (first | exact bl.rf | assumption | refine bl.nS ?_ (by omega) | refine bl.nI ?_ (by omega) | refine bl.nV ?_ (by omega) | refine bl.u ?_ (by omega))
    · repeat (first | exact bl.rf | assumption | refine bl.nS ?_ (by omega) | refine bl.nI ?_ (by omega) | refine bl.nV ?_ (by omega) | refine bl.u ?_ (by omega))
    · repeat (first | exact bl.rf | assumption | refine bl.nS ?_ (by omega) | refine bl.nI ?_ (by omega) | refine bl.nV ?_ (by omega) | refine bl.u ?_ (by omega))
    · repeat (first | exact ow_nS_s _ _ _ | assumption | refine (ow_nS_o _ _ (by omega)).trans ?_)
    · repeat (first | exact ow_nS_s _ _ _ | assumption | refine (ow_nS_o _ _ (by omega)).trans ?_)
    · simp [ow_nI, hI]
