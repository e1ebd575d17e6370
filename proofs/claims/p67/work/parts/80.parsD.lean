theorem rr_qbL {p b c : Nat} (h : b ≠ p) (h1 : b ≠ p + 1) (hc : b ≠ c) (hc1 : b ≠ c + 1) : ∀ (n : Nat) (I : ow_I) (i : Nat), (Q_readBarrel_L23 p c n I i).2 b = I b := by
  intro n
  induction n with
  | zero => intro I i; rfl
  | succ n ih =>
    intro I i
    simp only [Q_readBarrel_L23, lt_eq]
    (repeat' split) <;> simp only [ih, rr_qf h, rr_tn h h1, rr_u hc, rr_u hc1]
theorem rr_qb {p b c : Nat} {I : ow_I} (h : b ≠ p) (h1 : b ≠ p + 1) (hc : b ≠ c) (hc1 : b ≠ c + 1) : (Q_readBarrel p c I).2 b = I b := by
  simp only [Q_readBarrel, lt_eq]
  (repeat' split) <;> simp only [rr_qbL h h1 hc hc1, rr_tn h h1, rr_u hc]
theorem in_rbL {p c : Nat} (hc : c ≠ p + 1 ∧ c + 1 ≠ p + 1) : ∀ (n : Nat) (I : ow_I) (i : Nat), in_R (I (p + 1)) → in_R ((Q_readBarrel_L23 p c n I i).2 (p + 1)) := by
  intro n
  induction n with
  | zero => intro I i h; exact h
  | succ n ih =>
    intro I i h
    have k : ∀ (x y : Int32) (j : Nat), in_R (ow_u (ow_u (Q_takeNumber p (nI 10) (nI 150) I).2 (c + 1) j x) c 4 y (p + 1)) := fun x y j => in_row (in_tn h) (by rw [rr_u (Ne.symm hc.1), rr_u (Ne.symm hc.2)])
    simp only [Q_readBarrel_L23, lt_eq]
    split
    · exact h
    · split
      · split
        · split <;> exact in_row h (rr_qf (by omega))
        · split
          · exact ih _ _ (k _ _ _)
          · exact in_tn h
      · split
        · split
          · split <;> exact in_row h (rr_qf (by omega))
          · split
            · exact ih _ _ (k _ _ _)
            · exact in_tn h
        · exact h
theorem in_rb {p c : Nat} {I : ow_I} (hi : in_R (I (p + 1))) (hc : c ≠ p + 1 ∧ c + 1 ≠ p + 1) : in_R ((Q_readBarrel p c I).2 (p + 1)) := by
  simp only [Q_readBarrel, lt_eq]
  split
  · exact in_rbL hc _ _ _ (in_row (in_tn hi) (rr_u (Ne.symm hc.1)))
  · exact in_tn hi
theorem rb_L {p c : Nat} (hcp : c ≠ p) : ∀ (n : Nat) (I : ow_I) (i : Nat), i ≤ 10 → (0 < i → I c 4 = nI i) → (Q_readBarrel_L23 p c n I i).1 = true → ∃ j, j ≤ 10 ∧ (Q_readBarrel_L23 p c n I i).2 c 4 = nI j := by
  intro n
  induction n with
  | zero => intro I i _ _ h; exact absurd h Bool.false_ne_true
  | succ n ih =>
    intro I i hi h4
    have e : ∀ (x : Int32) (J : ow_I), 0 < i + 1 → ow_u J c 4 (nI (i + 1)) c 4 = nI (i + 1) := fun x J _ => ow_u_s _ _ _ _
    simp only [Q_readBarrel_L23, lt_eq]
    split
    · intro _; exact ⟨i, hi, h4 (by omega)⟩
    · rename_i q9
      have q9' : i ≤ 9 := by omega
      split
      · split
        · split <;> exact fun h => absurd h Bool.false_ne_true
        · split
          · exact ih _ _ (by omega) (e 0 _)
          · exact fun h => absurd h Bool.false_ne_true
      · split
        · split
          · split <;> exact fun h => absurd h Bool.false_ne_true
          · split
            · exact ih _ _ (by omega) (e 0 _)
            · exact fun h => absurd h Bool.false_ne_true
        · intro _; exact ⟨i, hi, h4 (by omega)⟩
theorem rb_1 {p c : Nat} {I : ow_I} (hcp : c ≠ p) (h : (Q_readBarrel p c I).1 = true) : 0 ≤ (Q_readBarrel p c I).2 c 4 ∧ tn ((Q_readBarrel p c I).2 c 4) ≤ 10 := by
  have h1 : ∃ j, j ≤ 10 ∧ (Q_readBarrel p c I).2 c 4 = nI j := by
    revert h
    simp only [Q_readBarrel, lt_eq]
    split
    · exact rb_L hcp _ _ _ (by decide) (fun h => absurd h (by decide))
    · exact fun h => absurd h Bool.false_ne_true
  obtain ⟨j, hj, e⟩ := h1
  rw [e]
  exact ⟨nI_pos' (by omega), by rw [tn_nI (by omega)]; exact hj⟩
