/-! the reference's answer about what was thrown; the relation moved to another memory -/
set_option maxRecDepth 100000 in
theorem cM_thrown {S : Nat → Option ow_Sh} {I : ow_I} {V : Nat → Nat → Value} {z : Nat} {m : Nat} (h_m : md_S S m) : ow_Cf yX11_thrown cX11_thrown 1 (some .int) 0 [.ref m] (S, I, V, z) (some (.int (I m 18))) (S, I, V, z) := by
  refine ow_Cf.of rfl (Nat.le_of_ble_eq_true rfl) (fun X K E F hk => ?_)
  have E : ow_E X RX11 cX11_thrown 1 (ow_rm 0 0 0) := E
  refine or_lv [(0, .ref m)] rfl ?_
  refine or_aload_n E rfl dX11_thrown_0 ?_
  refine ot_getI E fl_11_54 dX11_thrown_1 h_m.1 rfl ?_
  exact or_iret E F dX11_thrown_4 (Nat.le_refl _) (Nat.le_refl _) hk
theorem RR_tr {x m B : Nat} {I I' J J' : ow_I} (h : RR x m B I J) (eI : ∀ b, (x ≤ b ∧ b < x + 562) ∨ (x + 564 ≤ b ∧ b < x + 666) → I' b = I b) (eJ : ∀ b, m ≤ b → b < m + 8 → b ≠ m + 6 → b ≠ m → J' b = J b) (em : ∀ k, k ≠ 17 → J' m k = J m k) : RR x m B I' J' := by
  obtain ⟨⟨h1, h2⟩, h3, h4, h5, h6, h7, h8⟩ := h
  exact ⟨au_row h1 h2 (kV_eq h1.1 (fun b z1 z2 => eI b (by omega))) (kV_eq h1.2.1 (fun b z1 z2 => eI b (by omega))) (fun b hb => eI b (by omega)), st_of h3 (Nat.le_refl _) (fun b z1 z2 => eI b (by omega)) (fun j _ => by rw [eJ _ (by omega) (by omega) (by omega) (by omega)]), RH_of h4 (Nat.le_refl _) (fun b z1 z2 => eI b (by omega)) (em 1 (by omega)) (em 2 (by omega)) (fun j _ _ => by rw [eJ _ (by omega) (by omega) (by omega) (by omega)]), RS_of h5 (Nat.le_refl _) (fun b z => eI b (by omega)) (eJ _ (by omega) (by omega) (by omega) (by omega)) (fun j _ _ => by rw [eJ _ (by omega) (by omega) (by omega) (by omega)]), RI_of h6 (eI _ (by omega)) (eI _ (by omega)) (em 5 (by omega)) (eJ _ (by omega) (by omega) (by omega) (by omega)), RE_of h7 (eI _ (by omega)) (em 6 (by omega)) (em 7 (by omega)), RW_of h8 (eJ _ (by omega) (by omega) (by omega) (by omega))⟩
