theorem rb_0L {p c : Nat} (hc : c ≠ p ∧ c ≠ p + 1) : ∀ (n : Nat) (I : ow_I) (i : Nat), (Q_readBarrel_L23 p c n I i).2 c 0 = I c 0 := by
  intro n
  induction n with
  | zero => intro I i; rfl
  | succ n ih =>
    intro I i
    simp only [Q_readBarrel_L23, lt_eq]
    (repeat' split) <;> first | rfl | (simp only [ih, rr_qf hc.1]; done) | (rw [ih, ow_u_k _ _ _ _ (by decide), rr_u (by omega), rr_tn hc.1 hc.2]; done) | (rw [rr_tn hc.1 hc.2]; done)
theorem rb_0 {p c : Nat} {I : ow_I} (hc : c ≠ p ∧ c ≠ p + 1) : (Q_readBarrel p c I).2 c 0 = I c 0 := by
  simp only [Q_readBarrel, lt_eq]
  split
  · rw [rb_0L hc, ow_u_k _ _ _ _ (by decide), rr_tn hc.1 hc.2]
  · rw [rr_tn hc.1 hc.2]
