theorem tf_0 {p c : Nat} {l m : Int32} {I : ow_I} (hc : c ≠ p ∧ c ≠ p + 1) : (Q_takeFirst p c l m I).2 c 0 = I c 0 := by
  simp only [Q_takeFirst, lt_eq]
  rw [ow_u_k _ _ _ _ (by decide), rr_tn hc.1 hc.2]
theorem tc_0 {p c : Nat} {l m : Int32} {I : ow_I} (hc : c ≠ p ∧ c ≠ p + 1) : (Q_takeSecond p c l m I).2 c 0 = I c 0 := by
  simp only [Q_takeSecond, lt_eq]
  rw [ow_u_k _ _ _ _ (by decide), rr_tn hc.1 hc.2]
theorem rb_0L {p c : Nat} (hc : c ≠ p ∧ c ≠ p + 1) : ∀ (n : Nat) (I : ow_I) (i : Nat), (Q_readBarrel_L23 p c n I i).2 c 0 = I c 0 := by
  intro n
  induction n with
  | zero => intro I i; rfl
  | succ n ih =>
    intro I i
    simp only [Q_readBarrel_L23, lt_eq]
    (repeat' split) <;> first | rfl | (simp only [ih, rr_qf hc.1]; done) | (rw [ih, ow_u_k _ _ _ _ (by decide), rr_u (by omega), rr_tn hc.1 hc.2]; done) | (rw [rr_tn hc.1 hc.2]; done)
theorem rb_0 {p c : Nat} {I : ow_I} (hc : c ≠ p ∧ c ≠ p + 1) : (Q_readBarrel p c I).2 c 0 = I c 0 := by
  simp only [Q_readBarrel, lt_eq]
  split
  · rw [rb_0L hc, ow_u_k _ _ _ _ (by decide), rr_tn hc.1 hc.2]
  · rw [rr_tn hc.1 hc.2]
theorem rr_rn {p c b j : Nat} {n : Int32} {I : ow_I} (h : b ≠ p) (h1 : b ≠ p + 1) (hc : b ≠ c) (hc1 : b ≠ c + 1) : (Q_readNumbers p c n j I).2 b = I b := by
  simp only [Q_readNumbers, lt_eq]
  (repeat' split) <;> simp only [rr_tf h h1 hc, rr_tc h h1 hc, rr_qb h h1 hc hc1]
theorem rn_0 {p c j : Nat} {n : Int32} {I : ow_I} (hc : c ≠ p ∧ c ≠ p + 1) : (Q_readNumbers p c n j I).2 c 0 = I c 0 := by
  simp only [Q_readNumbers, lt_eq]
  (repeat' split) <;> simp only [tf_0 hc, tc_0 hc, rb_0 hc]
theorem rn_c {p i k j : Nat} {n : Int32} {I : ow_I} : (Q_readNumbers p (p + 6 + 2 * i) n j I).2 (p + 6 + 2 * k) 0 = I (p + 6 + 2 * k) 0 := by
  by_cases h : k = i
  · rw [h]; exact rn_0 (by omega)
  · rw [rr_rn (by omega) (by omega) (by omega) (by omega)]
theorem in_rn {p c j : Nat} {n : Int32} {I : ow_I} (hi : in_R (I (p + 1))) (hc : c ≠ p + 1 ∧ c + 1 ≠ p + 1) : in_R ((Q_readNumbers p c n j I).2 (p + 1)) := by
  simp only [Q_readNumbers, lt_eq]
  (repeat' split) <;> (try dsimp only) <;> first | with_reducible exact in_tf hi hc.1 | with_reducible exact in_tc (in_tf hi hc.1) hc.1 | with_reducible exact in_rb hi hc
