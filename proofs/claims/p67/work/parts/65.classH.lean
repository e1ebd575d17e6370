theorem kw_1 {a : Nat} {x : Int32} {I : ow_I} (h : K_isWaiting a x I = true) : 0 ≤ x ∧ tn x < tn (I a 10) ∧ I (a + 11 + 2 * tn x) 7 = 0 := by
  unfold K_isWaiting at h
  split at h
  · rename_i hb
    have r := kb_1 hb
    split at h
    · exact ⟨r.1, r.2, by assumption⟩
    · exact absurd h (by decide)
  · exact absurd h (by decide)
theorem ref_0 {a : Nat} {x : Int32} {I : ow_I} (h : K_refusal a x I = 0) : 0 ≤ x ∧ tn x < tn (I a 8) := by
  unfold K_refusal at h
  revert h
  (repeat' split) <;> intro h
  all_goals first | exact ky_1 (by assumption) | exact absurd h (by decide)
theorem rr_keb {a b : Nat} {I : ow_I} (h : b ≠ a) : K_endBidding a I b = I b := by
  simp only [K_endBidding, lt_eq, rr_u h]
theorem rr_kenq {a b : Nat} {x : Int32} {I : ow_I} (h : b ≠ a) (h4 : b ≠ a + 4) : K_enqueue a x I b = I b := by
  simp only [K_enqueue, lt_eq]
  (repeat' split) <;> simp only [rr_u h, rr_u h4]
theorem kV_t {a k : Nat} {x : Int32} {I : ow_I} (hV : k_V a I) : k_V a (ow_u I (a + 1) k x) := by
  obtain ⟨h1, h2, h3, h4, h5, h6, h7⟩ := hV
  have e : ∀ b, b ≠ a + 1 → ow_u I (a + 1) k x b = I b := fun b hb => rr_u hb
  refine ⟨by rw [e a (by omega)]; exact h1, by rw [e a (by omega)]; exact h2, by rw [e a (by omega)]; exact h3, by rw [e a (by omega)]; exact h4, by rw [e a (by omega)]; exact h5, ?_, ?_⟩
  · rw [e a (by omega), e (a + 4) (by omega)]; exact h6
  · intro j hj
    rw [e _ (by omega)]
    exact h7 j hj
theorem kV_q {a k : Nat} {x : Int32} {I : ow_I} (hV : k_V a I) (hk : k = 16 ∨ k = 14) : k_V a (ow_u I a k x) := by
  obtain ⟨h1, h2, h3, h4, h5, h6, h7⟩ := hV
  have e : ∀ b, b ≠ a → ow_u I a k x b = I b := fun b hb => rr_u hb
  have f : ∀ j, j ≠ k → ow_u I a k x a j = I a j := fun j hj => ow_u_k _ _ _ _ hj _
  refine ⟨by rw [f 8 (by omega)]; exact h1, by rw [f 10 (by omega)]; exact h2, by rw [f 12 (by omega)]; exact h3, by rw [f 13 (by omega)]; exact h4, by rw [f 15 (by omega)]; exact h5, ?_, ?_⟩
  · rw [f 12 (by omega), e (a + 4) (by omega)]; exact h6
  · intro j hj
    rw [e _ (by omega)]
    exact h7 j hj
