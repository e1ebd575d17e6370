theorem au_3 {x : Nat} {I : ow_I} (hX : au_V x I) : ∀ i, i < 8 → (0 ≤ I (x + 103 + 2 + 51 * i) 8 ∧ tn (I (x + 103 + 2 + 51 * i) 8) ≤ 6) ∧ 0 ≤ I (x + 103 + 2 + 51 * i) 10 ∧ tn (I (x + 103 + 2 + 51 * i) 10) ≤ 20 := fun i hi => ⟨(hX.2.2.1 i hi).1, (hX.2.2.1 i hi).2.1⟩
theorem kV_sc {x : Nat} {I : ow_I} (h1 : k_V (x + 1) I) (h2 : k_V (x + 52) I) : k_V (x + 52) (K_copyFrom (x + 52) (x + 1) I) := kV_cp h1 h2 (by omega)
theorem rr_sc {x b : Nat} {I : ow_I} (h1 : k_V (x + 1) I) (h : b < x + 52 ∨ x + 103 ≤ b) : K_copyFrom (x + 52) (x + 1) I b = I b := rr_kcp (by omega) (by omega) h1.1.2 h1.2.1.2
