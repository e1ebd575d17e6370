theorem ab_0 {x : Nat} {b : Int32} {I : ow_I} (h : A_barrelAt x b I = 0) : 0 ≤ b ∧ tn b < tn (I (x + 1) 10) := by
  unfold A_barrelAt at h
  split at h
  · rename_i q; exact rb_0' q
  · rename_i q; exact absurd h q
theorem ay_0 {x : Nat} {b : Int32} {I : ow_I} (h : A_buyerAt x b I = 0) : 0 ≤ b ∧ tn b < tn (I (x + 1) 8) := by
  unfold A_buyerAt at h
  split at h
  · rename_i q; exact ry_0' q
  · rename_i q; exact absurd h q
theorem ab_2 {x : Nat} {b : Int32} {I : ow_I} (hV : k_V (x + 1) I) (h : A_barrelAt x b I = 0) : tn b < 20 := Nat.lt_of_lt_of_le (ab_0 h).2 hV.2.1.2
theorem ay_2 {x : Nat} {b : Int32} {I : ow_I} (hV : k_V (x + 1) I) (h : A_buyerAt x b I = 0) : tn b < 6 := Nat.lt_of_lt_of_le (ay_0 h).2 hV.1.2
