/-! what a block of the reference keeps: period, counts, the open barrel, the leader, the queue, the eels -/
def md_V (A : Nat → Int32) : Prop :=
  ¬ A 0 = 0 ∧ (0 ≤ A 6 ∧ 1 ≤ tn (A 6) ∧ tn (A 6) ≤ 6) ∧ (0 ≤ A 7 ∧ tn (A 7) ≤ 20) ∧
  (A 8 = -1 ∨ (0 ≤ A 8 ∧ tn (A 8) < tn (A 7) ∧ ¬ A (66 + 15 * tn (A 8) + 12) = 0)) ∧
  (A 10 = -1 ∨ (0 ≤ A 10 ∧ tn (A 10) < tn (A 6) ∧ 0 ≤ A 8)) ∧
  (0 ≤ A 12 ∧ tn (A 12) ≤ 20) ∧
  (∀ i, i < tn (A 12) → 0 ≤ A (16 + i) ∧ tn (A (16 + i)) < tn (A 7) ∧ A (66 + 15 * tn (A (16 + i)) + 12) = 0) ∧
  (∀ i j, i < tn (A 12) → j < tn (A 12) → A (16 + i) = A (16 + j) → i = j) ∧
  (∀ k, k < tn (A 7) → A (66 + 15 * k + 12) = 0 → ∃ p, p < tn (A 12) ∧ A (16 + p) = nI k) ∧
  (∀ k, k < tn (A 7) → 0 ≤ A (66 + 15 * k) ∧ 1 ≤ tn (A (66 + 15 * k)) ∧ tn (A (66 + 15 * k)) ≤ 9)
theorem i_nlt {x y : Int32} (h : ¬ x < y) : y ≤ x := by rw [Int32.lt_iff_toInt_lt] at h; rw [Int32.le_iff_toInt_le]; omega
theorem i_lt {x y : Int32} (h : ¬ y ≤ x) : x < y := by rw [Int32.le_iff_toInt_le] at h; rw [Int32.lt_iff_toInt_lt]; omega
theorem i_m1 : ¬ (0 : Int32) ≤ -1 := by decide
theorem nI_ge0 {n : Nat} (h : n < 2 ^ 31) : 0 ≤ nI n := nI_pos' h
theorem m1_add {i : Nat} (h : 1 ≤ i) : (-1 : Int32) + nI i = nI (i - 1) := by
  obtain ⟨j, rfl⟩ : ∃ j, i = j + 1 := ⟨i - 1, by omega⟩
  rw [Int32.add_comm, pk_m1]
  rfl
theorem md_th {A : Nat → Int32} (hv : md_V A) {i : Nat} (h1 : 1 ≤ i) (h2 : i ≤ tn (A 6)) : 0 ≤ A 10 + nI i - (A 10 + nI i) / A 6 * A 6 ∧ tn (A 10 + nI i - (A 10 + nI i) / A 6 * A 6) < tn (A 6) := by
  obtain ⟨-, ⟨g1, g2, g3⟩, -, -, g5, -⟩ := hv
  have e6 := (nI_tn g1).symm
  have key : ∀ j : Nat, j < 2 ^ 20 → A 10 + nI i = nI j → 0 ≤ A 10 + nI i - (A 10 + nI i) / A 6 * A 6 ∧ tn (A 10 + nI i - (A 10 + nI i) / A 6 * A 6) < tn (A 6) := by
    intro j hj e
    rw [e]
    generalize tn (A 6) = n at e6 g2 g3 h2 ⊢
    rw [e6, pk_rem (by omega) (by omega) (by omega)]
    have h3 := Nat.mod_lt j (show 0 < n by omega)
    exact ⟨nI_ge0 (by omega), by rw [tn_nI (by omega)]; exact h3⟩
  rcases g5 with g5 | ⟨g5, g6, -⟩
  · exact key (i - 1) (by omega) (by rw [g5, m1_add h1])
  · exact key (tn (A 10) + i) (by omega) (by rw [← nI_add, nI_tn g5])
