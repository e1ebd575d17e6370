theorem lb_A {m : Nat} {b : Int32} {I : ow_I} : (M_lacksBuyer m b I).2 (m + 1) = I (m + 1) := by
  simp only [M_lacksBuyer, lt_eq]
  (repeat' split) <;> simp only [rr_u (show m + 1 ≠ m by omega)]
theorem lB_A {m : Nat} {b : Int32} {I : ow_I} : (M_lacksBarrel m b I).2 (m + 1) = I (m + 1) := by
  simp only [M_lacksBarrel, lt_eq]
  (repeat' split) <;> simp only [rr_u (show m + 1 ≠ m by omega)]
theorem u_A {m k : Nat} {x : Int32} {I : ow_I} : ow_u I m k x (m + 1) = I (m + 1) := rr_u (by omega)
theorem fr_lb {m k : Nat} {b : Int32} {I : ow_I} (h : k ≠ 18) : (M_lacksBuyer m b I).2 m k = I m k := by
  simp only [M_lacksBuyer, lt_eq]
  (repeat' split) <;> simp only [ow_u_k _ _ _ _ h]
theorem fr_lB {m k : Nat} {b : Int32} {I : ow_I} (h : k ≠ 18) : (M_lacksBarrel m b I).2 m k = I m k := by
  simp only [M_lacksBarrel, lt_eq]
  (repeat' split) <;> simp only [ow_u_k _ _ _ _ h]
theorem rr_lb {m a : Nat} {b : Int32} {I : ow_I} (h : a ≠ m) : (M_lacksBuyer m b I).2 a = I a := by
  simp only [M_lacksBuyer, lt_eq]
  (repeat' split) <;> simp only [rr_u h]
theorem rr_lB {m a : Nat} {b : Int32} {I : ow_I} (h : a ≠ m) : (M_lacksBarrel m b I).2 a = I a := by
  simp only [M_lacksBarrel, lt_eq]
  (repeat' split) <;> simp only [rr_u h]
theorem lb_1 {m : Nat} {b : Int32} {I : ow_I} (hv : md_V (I (m + 1))) (h : (M_lacksBuyer m b I).1 = false) : 0 ≤ b ∧ tn b < tn (I (m + 1) 6) := by
  have h6 := hv.2.1
  revert h
  simp only [M_lacksBuyer, lt_eq]
  (repeat' split)
  · rename_i h
    intro _
    have r := in_rng h
    rw [u_A] at r
    exact le_m1 h6.1 h6.2.1 h6.2.2 r.1 r.2
  · intro h; exact tf_abs h
theorem lB_1 {m : Nat} {b : Int32} {I : ow_I} (hv : md_V (I (m + 1))) (h : (M_lacksBarrel m b I).1 = false) : 0 ≤ b ∧ tn b < tn (I (m + 1) 7) := by
  have h7 := hv.2.2.1
  revert h
  simp only [M_lacksBarrel, lt_eq]
  (repeat' split)
  · rename_i h
    intro _
    have r := isB h (by rw [u_A]; exact h7.1)
    rw [u_A] at r
    exact r
  · intro h; exact tf_abs h
