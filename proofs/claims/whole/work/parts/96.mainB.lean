theorem rb_0' {x : Nat} {b : Int32} {I : ow_I} (h : A_requireBarrel x b I = 0) : 0 ≤ b ∧ tn b < tn (I (x + 1) 10) := by
  unfold A_requireBarrel at h
  split at h
  · rename_i q; exact kb_1 q
  · exact absurd h (by decide)
theorem ry_0' {x : Nat} {b : Int32} {I : ow_I} (h : A_requireBuyer x b I = 0) : 0 ≤ b ∧ tn b < tn (I (x + 1) 8) := by
  unfold A_requireBuyer at h
  split at h
  · rename_i q; exact ky_1 q
  · exact absurd h (by decide)
