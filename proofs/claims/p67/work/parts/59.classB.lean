/-! the class: what its leaves leave as it was -/
theorem rr_tcp {t o a : Nat} {I : ow_I} (h : a ≠ t) : T_copyFrom t o I a = I a := by
  simp only [T_copyFrom, lt_eq, rr_u h]
theorem rr_ybg {b a : Nat} {p s f : Int32} {I : ow_I} (h : a ≠ b) : Y_begin b p s f I a = I a := by
  simp only [Y_begin, lt_eq, rr_u h]
theorem rr_ycp {b o a : Nat} {I : ow_I} (h : a ≠ b) : Y_copyFrom b o I a = I a := by
  simp only [Y_copyFrom, lt_eq, rr_u h]
theorem rr_beo {b a : Nat} {I : ow_I} (h : a ≠ b) : B_emptyOut b I a = I a := by
  simp only [B_emptyOut, lt_eq, rr_u h]
theorem rr_bbw {b a : Nat} {r : Int32} {I : ow_I} (h : a ≠ b) : B_beginWaiting b r I a = I a := by
  simp only [B_beginWaiting, lt_eq, rr_u h]
theorem rr_bae {b a : Nat} {x : Int32} {I : ow_I} (h : a ≠ b) (h1 : a ≠ b + 1) : B_addEel b x I a = I a := by
  simp only [B_addEel, lt_eq]
  (repeat' split) <;> simp only [rr_u h, rr_u h1]
theorem rr_bcp {b o a : Nat} {I : ow_I} (h : a ≠ b) (h1 : a ≠ b + 1) : B_copyFrom b o I a = I a := by
  simp only [B_copyFrom, lt_eq, rr_u h, ow_cp_a h1]
theorem beo_1 {b : Nat} {I : ow_I} : B_emptyOut b I b 1 = nI 0 := by
  simp (disch := decide) only [B_emptyOut, lt_eq, ow_u_k, ow_u_s]
theorem bae_1 {b : Nat} {x : Int32} {I : ow_I} (h : 0 ≤ I b 1) (h9 : tn (I b 1) ≤ 9) : 0 ≤ B_addEel b x I b 1 ∧ tn (B_addEel b x I b 1) ≤ 9 := by
  simp only [B_addEel, lt_eq]
  split
  · have t := tn_inc h (by omega)
    split
    all_goals
      simp (disch := decide) only [ow_u_k, ow_u_s, rr_u (show b ≠ b + 1 by omega)]
      exact ⟨t.1, by rw [t.2]; omega⟩
  · exact ⟨h, h9⟩
def k_V (a : Nat) (I : ow_I) : Prop := (0 ≤ I a 8 ∧ tn (I a 8) ≤ 6) ∧ (0 ≤ I a 10 ∧ tn (I a 10) ≤ 20) ∧ (0 ≤ I a 12 ∧ tn (I a 12) ≤ 20) ∧ (I a 13 = -1 ∨ (0 ≤ I a 13 ∧ tn (I a 13) < 20)) ∧ (I a 15 = -1 ∨ (0 ≤ I a 15 ∧ tn (I a 15) < 6)) ∧ (∀ i, i < tn (I a 12) → 0 ≤ I (a + 4) i ∧ tn (I (a + 4) i) < 20) ∧ (∀ k, k < 20 → 0 ≤ I (a + 11 + 2 * k) 1 ∧ tn (I (a + 11 + 2 * k) 1) ≤ 9)
theorem lt_tn' {x y : Int32} (h : x < y) (hx : 0 ≤ x) : 0 ≤ x ∧ tn x < tn y := ⟨hx, (lt_tn h hx).2⟩
