theorem rr_bfL {b f s e a : Nat} (h : a ≠ b) (h1 : a ≠ b + 1) : ∀ (n : Nat) (I : ow_I) (i : Nat), B_fill_L7 b f s e n I i a = I a := by
  intro n
  induction n with
  | zero => intro I i; rfl
  | succ n ih =>
    intro I i
    simp only [B_fill_L7, lt_eq]
    (repeat' split) <;> simp only [ih, rr_bae h h1]
theorem rr_bf {b f s e a : Nat} {I : ow_I} (h : a ≠ b) (h1 : a ≠ b + 1) : B_fill b f s e I a = I a := by
  simp only [B_fill, lt_eq]
  rw [rr_bfL h h1, rr_beo h]
theorem rr_bkf {b k a : Nat} {I : ow_I} (h : a ≠ b) (h1 : a ≠ b + 1) : B_keepFirst b k I a = I a := by
  simp only [B_keepFirst, lt_eq]
  rw [rr_bf h h1]
