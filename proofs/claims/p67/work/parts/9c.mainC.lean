def au_V (x : Nat) (I : ow_I) : Prop := k_V (x + 1) I ∧ k_V (x + 52) I ∧ (∀ i, i < 8 → k_V (x + 103 + 2 + 51 * i) I) ∧ (∀ i, i < 2 → k_V (x + 564 + 51 * i) I) ∧ (0 ≤ I (x + 103) 1 ∧ tn (I (x + 103) 1) < 8) ∧ in_R (I (x + 515 + 1))
theorem rr_rem {x b : Nat} {I : ow_I} (hX : au_V x I) (hb : b < x + 103 ∨ x + 513 ≤ b) : H_remember (x + 103) (x + 1) I b = I b := by
  simp only [H_remember, lt_eq]
  have h1 := hX.2.2.2.2.1.2
  rw [rr_u (by omega), rr_u (by omega), rr_kcp (by omega) (by omega) hX.1.1.2 hX.1.2.1.2]
theorem kV_rem {x : Nat} {I : ow_I} (hX : au_V x I) : k_V (x + 1) (H_remember (x + 103) (x + 1) I) := kV_eq hX.1 (fun b h1 h2 => rr_rem hX (by omega))
theorem af_L {u : Nat} {w : Int32} : ∀ (n : Nat) (I : ow_I) (s : Int32), 0 ≤ I u 1 → tn (I u 1) ≤ 500 → 0 ≤ U_addFour_L3 u w n I s u 1 ∧ tn (U_addFour_L3 u w n I s u 1) ≤ 500 := by
  intro n
  induction n with
  | zero => intro I s h h5; exact ⟨h, h5⟩
  | succ n ih =>
    intro I s h h5
    simp only [U_addFour_L3, lt_eq]
    split
    · exact ⟨h, h5⟩
    · exact ih _ _ (ab_1 h h5).1 (ab_1 h h5).2
theorem af_1 {u : Nat} {w : Int32} {I : ow_I} (h : 0 ≤ I u 1 ∧ tn (I u 1) ≤ 500) : 0 ≤ U_addFour u w I u 1 ∧ tn (U_addFour u w I u 1) ≤ 500 := by
  simp only [U_addFour]
  exact af_L _ _ _ h.1 h.2
theorem fld_I (I : ow_I) : I = I := rfl

theorem au_3 {x : Nat} {I : ow_I} (hX : au_V x I) : ∀ i, i < 8 → (0 ≤ I (x + 103 + 2 + 51 * i) 8 ∧ tn (I (x + 103 + 2 + 51 * i) 8) ≤ 6) ∧ 0 ≤ I (x + 103 + 2 + 51 * i) 10 ∧ tn (I (x + 103 + 2 + 51 * i) 10) ≤ 20 := fun i hi => ⟨(hX.2.2.1 i hi).1, (hX.2.2.1 i hi).2.1⟩
theorem kV_sc {x : Nat} {I : ow_I} (h1 : k_V (x + 1) I) (h2 : k_V (x + 52) I) : k_V (x + 52) (K_copyFrom (x + 52) (x + 1) I) := kV_cp h1 h2 (by omega)
theorem rr_sc {x b : Nat} {I : ow_I} (h1 : k_V (x + 1) I) (h : b < x + 52 ∨ x + 103 ≤ b) : K_copyFrom (x + 52) (x + 1) I b = I b := rr_kcp (by omega) (by omega) h1.1.2 h1.2.1.2
theorem n0_le {k : Nat} {v : Int32} (hk : k < 2 ^ 31) (h : nI k ≤ v) : 0 ≤ v := Int32.le_trans (nI_pos' hk) h
