def au_V (x : Nat) (I : ow_I) : Prop := k_V (x + 1) I ∧ k_V (x + 52) I ∧ (∀ i, i < 8 → k_V (x + 103 + 2 + 51 * i) I) ∧ (∀ i, i < 2 → k_V (x + 564 + 51 * i) I) ∧ (0 ≤ I (x + 103) 1 ∧ tn (I (x + 103) 1) < 8) ∧ in_R (I (x + 515 + 1))
theorem rr_rem {x b : Nat} {I : ow_I} (hX : au_V x I) (hb : b < x + 103 ∨ x + 513 ≤ b) : H_remember (x + 103) (x + 1) I b = I b := by
  simp only [H_remember, lt_eq]
  have h1 := hX.2.2.2.2.1.2
  rw [rr_u (by omega), rr_u (by omega), rr_kcp (by omega) (by omega) hX.1.1.2 hX.1.2.1.2]
theorem kV_rem {x : Nat} {I : ow_I} (hX : au_V x I) : k_V (x + 1) (H_remember (x + 103) (x + 1) I) := kV_eq hX.1 (fun b h1 h2 => rr_rem hX (by omega))
theorem rg_1 {v l m : Int32} {I : ow_I} (h : A_requireRange v l m I = 0) : l ≤ v ∧ v ≤ m := by
  unfold A_requireRange at h
  split at h
  · exact absurd h (by decide)
  · rename_i q
    split at h
    · rename_i q2; exact ⟨Int32.not_lt.mp q, q2⟩
    · exact absurd h (by decide)
theorem rg_0 {v m : Int32} {k : Nat} {I : ow_I} (hk : k < 2 ^ 31) (h : A_requireRange v (nI k) m I = 0) : 0 ≤ v := Int32.le_trans (nI_pos' hk) (rg_1 h).1
theorem rg_2 {v : Int32} {k n : Nat} {I : ow_I} (hk : k < 2 ^ 31) (hn : n < 2 ^ 31) (h : A_requireRange v (nI k) (nI n) I = 0) : tn v ≤ n := by
  have h0 := rg_0 hk h
  have h1 := (rg_1 h).2
  rw [← nI_tn h0, nI_leI (tn_lt v) hn] at h1
  exact h1
theorem af_L {u : Nat} {w : Int32} : ∀ (n : Nat) (I : ow_I) (s : Int32), 0 ≤ I u 1 → tn (I u 1) ≤ 500 → 0 ≤ U_addFour_L3 u w n I s u 1 ∧ tn (U_addFour_L3 u w n I s u 1) ≤ 500 := by
  intro n
  induction n with
  | zero => intro I s h h5; exact ⟨h, h5⟩
  | succ n ih =>
    intro I s h h5
    simp only [U_addFour_L3, lt_eq]
    split
    · exact ⟨h, h5⟩
    · exact ih _ _ (ab_1 h h5).1 (ab_1 h h5).2
theorem af_1 {u : Nat} {w : Int32} {I : ow_I} (h : 0 ≤ I u 1 ∧ tn (I u 1) ≤ 500) : 0 ≤ U_addFour u w I u 1 ∧ tn (U_addFour u w I u 1) ≤ 500 := by
  simp only [U_addFour]
  exact af_L _ _ _ h.1 h.2
theorem fld_I (I : ow_I) : I = I := rfl
