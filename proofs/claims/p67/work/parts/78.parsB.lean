theorem rr_qf {p b : Nat} {c : Int32} {I : ow_I} (h : b ≠ p) : (Q_fail p c I).2 b = I b := by
  simp only [Q_fail, lt_eq, rr_u h]
theorem rr_tn {p b : Nat} {l m : Int32} {I : ow_I} (h : b ≠ p) (h1 : b ≠ p + 1) : (Q_takeNumber p l m I).2 b = I b := by
  simp only [Q_takeNumber, lt_eq]
  (repeat' split) <;> simp only [rr_qf h, rr_adv h1, rr_u h]
theorem rr_ts {p b : Nat} {I : ow_I} (h : b ≠ p) (h1 : b ≠ p + 1) : (Q_takeSemicolon p I).2 b = I b := by
  simp only [Q_takeSemicolon, lt_eq]
  (repeat' split) <;> simp only [rr_qf h, rr_adv h1, rr_u h]
theorem in_tn {p : Nat} {l m : Int32} {I : ow_I} (hi : in_R (I (p + 1))) : in_R ((Q_takeNumber p l m I).2 (p + 1)) := by
  simp only [Q_takeNumber, lt_eq]
  (repeat' split)
  · exact in_adv (in_row hi (rr_u (by omega)))
  · exact in_row hi (rr_qf (by omega))
  · exact in_row hi (rr_qf (by omega))
theorem in_ts {p : Nat} {I : ow_I} (hi : in_R (I (p + 1))) : in_R ((Q_takeSemicolon p I).2 (p + 1)) := by
  simp only [Q_takeSemicolon, lt_eq]
  (repeat' split)
  · exact in_adv hi
  · exact in_row hi (rr_qf (by omega))
theorem in_beg {p : Nat} {I : ow_I} (hi : in_R (I (p + 1))) : in_R (Q_begin p I (p + 1)) := by
  simp only [Q_begin, lt_eq]
  exact in_restart (in_row hi (by rw [rr_u (by omega), rr_u (by omega)]))
theorem rr_beg {p b : Nat} {I : ow_I} (h : b ≠ p) (h1 : b ≠ p + 1) : Q_begin p I b = I b := by
  simp only [Q_begin, lt_eq, rr_restart h1, rr_u h]
