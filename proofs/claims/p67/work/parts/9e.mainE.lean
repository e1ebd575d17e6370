theorem rr_fillL {a b : Nat} {v : Int32} (h : b ≠ a) : ∀ (n : Nat) (I : ow_I) (i : Nat), j7_fill_53178_L5 a v n I i b = I b := by
  intro n
  induction n with
  | zero => intro I i; rfl
  | succ n ih =>
    intro I i
    simp only [j7_fill_53178_L5, lt_eq]
    split
    · rfl
    · rw [ih, rr_u h]
theorem rr_fill {a b : Nat} {v : Int32} {I : ow_I} (h : b ≠ a) : j7_fill_53178 a v I b = I b := rr_fillL h _ _ _
