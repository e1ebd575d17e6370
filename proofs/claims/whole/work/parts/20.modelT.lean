/-! the reference's texts: what its reading keeps -/
def md_T (m : Nat) (I : ow_I) : Prop := (0 ≤ I m 5 ∧ tn (I m 5) ≤ 500) ∧ (0 ≤ I m 8 ∧ tn (I m 8) ≤ tn (I m 5))
def md_W (m : Nat) (I : ow_I) : Prop := md_T m I ∧ 0 ≤ I m 10 ∧ tn (I m 10) ≤ tn (I m 8)
theorem byteAt_lt {m n : Nat} {I : ow_I} (h : ¬ M_byteAt m n I = -1000) : n < tn (I m 5) := by
  by_cases q : tn (I m 5) ≤ n
  · exact absurd (by simp [M_byteAt, q]) h
  · omega
theorem isLetter_lt {m n : Nat} {I : ow_I} (h : M_isLetter m n I = true) : n < tn (I m 5) := by
  by_cases q : tn (I m 5) ≤ n
  · have e : M_byteAt m n I = -1000 := by simp [M_byteAt, q]
    unfold M_isLetter at h
    rw [e] at h
    exact absurd h (by unfold M_in; decide)
  · omega
theorem isDigit_lt {m n : Nat} {I : ow_I} (h : M_isDigit m n I = true) : n < tn (I m 5) := by
  by_cases q : tn (I m 5) ≤ n
  · have e : M_byteAt m n I = -1000 := by simp [M_byteAt, q]
    unfold M_isDigit at h
    rw [e] at h
    exact absurd h (by unfold M_in; decide)
  · omega
theorem mdT_o {m : Nat} {I : ow_I} (ht : md_T m I) {k : Nat} (x : Int32) (h5 : k ≠ 5) (h8 : k ≠ 8) : md_T m (ow_u I m k x) := by
  unfold md_T
  rw [ow_u_k _ _ _ _ (Ne.symm h5), ow_u_k _ _ _ _ (Ne.symm h8)]
  exact ht
theorem mdT_n {m : Nat} {I : ow_I} (ht : md_T m I) (h : tn (I m 8) < tn (I m 5)) : md_T m (ow_u I m 8 (I m 8 + nI 1)) := by
  obtain ⟨h1, h2⟩ := ht
  unfold md_T
  rw [ow_u_k _ _ _ _ (by decide), ow_u_s, (tn_inc h2.1 (by omega)).2]
  exact ⟨h1, (tn_inc h2.1 (by omega)).1, by omega⟩
theorem mdT_a {m a k : Nat} {I : ow_I} (ht : md_T m I) (x : Int32) (h : m ≠ a) : md_T m (ow_u I a k x) := by
  unfold md_T
  rw [ow_u_a _ _ _ _ h, ow_u_a _ _ _ _ h]
  exact ht
