theorem kb_1 {a : Nat} {x : Int32} {I : ow_I} (h : K_hasBarrel a x I = true) : 0 ≤ x ∧ tn x < tn (I a 10) := by
  unfold K_hasBarrel at h
  split at h
  · exact absurd h (by decide)
  · split at h
    · exact absurd h (by decide)
    · exact lt_tn' (i_lt (by assumption)) (i_nlt (by assumption))
theorem ky_1 {a : Nat} {x : Int32} {I : ow_I} (h : K_hasBuyer a x I = true) : 0 ≤ x ∧ tn x < tn (I a 8) := by
  unfold K_hasBuyer at h
  split at h
  · exact absurd h (by decide)
  · split at h
    · exact absurd h (by decide)
    · exact lt_tn' (i_lt (by assumption)) (i_nlt (by assumption))
theorem kr_1 {a : Nat} {I : ow_I} (h : K_hasRoom a I = true) (h0 : 0 ≤ I a 10) : tn (I a 10) < 20 := by
  unfold K_hasRoom at h
  split at h
  · exact absurd h (by decide)
  · rename_i q
    have := (lt_tn (i_lt q) h0).2
    rw [tn_nI (by decide)] at this
    exact this
theorem ko_1 {a : Nat} {I : ow_I} (hV : k_V a I) (h : ¬ I a 13 = -1) : 0 ≤ I a 13 ∧ tn (I a 13) < 20 := by
  rcases hV.2.2.2.1 with q | q
  · exact absurd q h
  · exact q
theorem kl_1 {a : Nat} {I : ow_I} (hV : k_V a I) (h : ¬ I a 15 = -1) : 0 ≤ I a 15 ∧ tn (I a 15) < 6 := by
  rcases hV.2.2.2.2.1 with q | q
  · exact absurd q h
  · exact q
