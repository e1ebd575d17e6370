/-! pure rows of the reference: what its acts keep -/
theorem mdV_q {A : Nat → Int32} (hv : md_V A) (h8 : 0 ≤ A 8) : tn (A 12) < 20 := sorry
theorem V_row {m : Nat} {I : ow_I} (hv : md_V (I (m + 1))) {k : Nat} (x : Int32) (hk : k = 5 ∨ k = 11 ∨ k = 3) : md_V (ow_u I (m + 1) k x (m + 1)) := sorry
theorem V_close {m : Nat} {I : ow_I} (hv : md_V (I (m + 1))) (h8 : 0 ≤ I (m + 1) 8) : md_V (M_closeBarrel m I (m + 1)) := sorry
theorem V_openFirst {m : Nat} {I : ow_I} (hv : md_V (I (m + 1))) (h8 : ¬ 0 ≤ I (m + 1) 8) : md_V (M_openFirst m I (m + 1)) := sorry
theorem M_thinker_rng {m : Nat} {I : ow_I} (hv : md_V (I (m + 1))) (h : 0 ≤ M_thinker m I) : tn (M_thinker m I) < tn (I (m + 1) 6) := sorry
theorem V_nodNow {m b : Nat} {I : ow_I} (hv : md_V (I (m + 1))) (h8 : 0 ≤ I (m + 1) 8) (hb : b < tn (I (m + 1) 6)) : md_V ((M_nodNow m b I).2 (m + 1)) := sorry
theorem i_lt0 {x : Int32} (h : ¬ x < 0) : 0 ≤ x := i_nlt h
theorem mdV_10 {A : Nat → Int32} (hv : md_V A) (h : 0 ≤ A 10) : tn (A 10) < 6 := by
  have h1 := hv.2.1
  rcases hv.2.2.2.2.1 with q | q
  · rw [q] at h; exact absurd h i_m1
  · omega
theorem mdV_8 {A : Nat → Int32} (hv : md_V A) (h : 0 ≤ A 8) : tn (A 8) < 20 := by
  have h1 := hv.2.2.1
  rcases hv.2.2.2.1 with q | q
  · rw [q] at h; exact absurd h i_m1
  · omega
theorem tn_inc {x : Int32} (h : 0 ≤ x) (hb : tn x < 2 ^ 30) : 0 ≤ x + nI 1 ∧ tn (x + nI 1) = tn x + 1 := by
  have e := (nI_tn h).symm
  generalize tn x = n at e hb ⊢
  subst e
  rw [nI_add]
  exact ⟨nI_ge0 (by omega), tn_nI (by omega)⟩
theorem mdV_q0 {A : Nat → Int32} (hv : md_V A) : 0 < tn (A 12) → 0 ≤ A 16 ∧ tn (A 16) < 20 := fun h => by
  have h1 := hv.2.2.2.2.2.2.1 0 h
  have h2 := hv.2.2.1
  exact ⟨h1.1, by have := h1.2.1; simp only [Nat.add_zero] at this; omega⟩
