/-! the reference's texts: what a command's reading leaves -/
def md_st (m : Nat) (w : Int32) (c : Nat) (J : ow_I) : Bool × ow_I := M_failsAtCommand_L104 m 11 (ow_u (ow_u J (m + 5) (13 * c) w) (m + 5) (13 * c + 1) (J m 13)) (13 * c) 0
theorem cmd_eq (m : Nat) (I : ow_I) : M_failsAtCommand m I = if M_in (M_wordOf m I) (nI 2) (nI 7) I then (if I m 15 = nI 20 then M_fails m (nI 3) I else
    if M_wordOf m I = nI 2 then (if (M_failsAtBarrel m (ow_u I m 13 (nI 2))).1 then (true, (M_failsAtBarrel m (ow_u I m 13 (nI 2))).2) else md_st m (M_wordOf m I) (tn (I m 15)) (M_failsAtBarrel m (ow_u I m 13 (nI 2))).2)
    else (if (M_failsAtRest m (M_wordOf m I) (ow_u I m 13 (nI 2))).1 then (true, (M_failsAtRest m (M_wordOf m I) (ow_u I m 13 (nI 2))).2) else md_st m (M_wordOf m I) (tn (I m 15)) (M_readToken m (M_failsAtRest m (M_wordOf m I) (ow_u I m 13 (nI 2))).2))) else M_fails m (nI 1) I := by
  have e : ∀ (J : ow_I) k x, ow_u J (m + 5) k x m = J m := fun J k x => rr_u (by omega)
  by_cases h : M_wordOf m I = nI 2
  · simp only [M_failsAtCommand, lt_eq, md_st, if_pos h, e]
  · simp only [M_failsAtCommand, lt_eq, md_st, if_neg h, e]
section
variable {m : Nat}
theorem rr_cmL {a' : Nat} (h : a' ≠ m) (h5 : a' ≠ m + 5) : ∀ (n : Nat) (I : ow_I) (a i : Nat), (M_failsAtCommand_L104 m n I a i).2 a' = I a' := by
  intro n
  induction n with
  | zero => intro I a i; rfl
  | succ n ih =>
    intro I a i
    simp only [M_failsAtCommand_L104, lt_eq]
    split
    · dsimp only
      rw [rr_end h, rr_u h]
    · rw [ih, rr_u h5]
theorem fr_cmL {k : Nat} (h : k < 6 ∨ (11 < k ∧ k ≠ 15)) : ∀ (n : Nat) (I : ow_I) (a i : Nat), (M_failsAtCommand_L104 m n I a i).2 m k = I m k := by
  intro n
  induction n with
  | zero => intro I a i; rfl
  | succ n ih =>
    intro I a i
    simp only [M_failsAtCommand_L104, lt_eq]
    split
    · dsimp only
      rw [fr_end (by omega), ow_u_k _ _ _ _ (by omega)]
    · rw [ih, rr_u (by omega)]
theorem W_cmL : ∀ (n : Nat) (I : ow_I) (a i : Nat), md_W m I → md_W m (M_failsAtCommand_L104 m n I a i).2 := by
  intro n
  induction n with
  | zero => intro I a i hw; exact hw
  | succ n ih =>
    intro I a i hw
    simp only [M_failsAtCommand_L104, lt_eq]
    split
    · exact W_end (mdW_o hw _ (by decide) (by decide) (by decide))
    · exact ih _ _ _ (mdW_row hw (rr_u (by omega)))
theorem cmL_15 : ∀ (n : Nat) (I : ow_I) (a i : Nat), tn (I m 13) ≤ 10 → 10 - i < n → (M_failsAtCommand_L104 m n I a i).2 m 15 = I m 15 + nI 1 ∧ (∀ k, (M_failsAtCommand_L104 m n I a i).2 (m + 5) k = if a + 2 + i ≤ k ∧ k < a + 2 + tn (I m 13) then I (m + 4) (k - (a + 2)) else I (m + 5) k) := by
  intro n
  induction n with
  | zero => intro I a i _ h; omega
  | succ n ih =>
    intro I a i h10 hn
    simp only [M_failsAtCommand_L104, lt_eq]
    split
    · dsimp only
      refine ⟨by rw [fr_end (by decide), ow_u_s], fun k => ?_⟩
      rw [rr_end (by omega), rr_u (by omega), if_neg (by omega)]
    · have em : ∀ x, ow_u I (m + 5) (a + 2 + i) x m = I m := fun x => rr_u (by omega)
      have e4 : ∀ x, ow_u I (m + 5) (a + 2 + i) x (m + 4) = I (m + 4) := fun x => rr_u (by omega)
      have r := ih (ow_u I (m + 5) (a + 2 + i) (I (m + 4) i)) a (i + 1) (by rw [em]; exact h10) (by omega)
      rw [em] at r
      refine ⟨r.1, fun k => ?_⟩
      rw [r.2 k, e4, u_one]
      by_cases c : k = a + 2 + i
      · rw [if_neg (by omega), if_pos c, if_pos (by omega), c, show a + 2 + i - (a + 2) = i by omega]
      · by_cases d : a + 2 + (i + 1) ≤ k ∧ k < a + 2 + tn (I m 13)
        · rw [if_pos d, if_pos (by omega)]
        · rw [if_neg d, if_neg c, if_neg (by omega)]
theorem rr_st {w : Int32} {c a' : Nat} {J : ow_I} (h : a' ≠ m) (h5 : a' ≠ m + 5) : (md_st m w c J).2 a' = J a' := by
  unfold md_st
  rw [rr_cmL h h5, rr_u h5, rr_u h5]
theorem fr_st {w : Int32} {c k : Nat} {J : ow_I} (h : k < 6 ∨ (11 < k ∧ k ≠ 15)) : (md_st m w c J).2 m k = J m k := by
  unfold md_st
  rw [fr_cmL h, rr_u (by omega), rr_u (by omega)]
theorem W_st {w : Int32} {c : Nat} {J : ow_I} (hw : md_W m J) : md_W m (md_st m w c J).2 := W_cmL _ _ _ _ (mdW_row (mdW_row hw (rr_u (by omega))) (rr_u (by omega)))
theorem st_15 {w : Int32} {c : Nat} {J : ow_I} (h : tn (J m 13) ≤ 10) : (md_st m w c J).2 m 15 = J m 15 + nI 1 := by
  have e : ∀ x y, ow_u (ow_u J (m + 5) (13 * c) x) (m + 5) (13 * c + 1) y m = J m := fun x y => by rw [rr_u (by omega), rr_u (by omega)]
  have r := cmL_15 (m := m) 11 (ow_u (ow_u J (m + 5) (13 * c) w) (m + 5) (13 * c + 1) (J m 13)) (13 * c) 0 (by rw [e]; exact h) (by omega)
  rw [e] at r
  exact r.1
theorem st_5 {w : Int32} {c k : Nat} {J : ow_I} (h : tn (J m 13) ≤ 10) : (md_st m w c J).2 (m + 5) k = if 13 * c + 2 ≤ k ∧ k < 13 * c + 2 + tn (J m 13) then J (m + 4) (k - (13 * c + 2)) else if k = 13 * c + 1 then J m 13 else if k = 13 * c then w else J (m + 5) k := by
  have e : ∀ x y, ow_u (ow_u J (m + 5) (13 * c) x) (m + 5) (13 * c + 1) y m = J m := fun x y => by rw [rr_u (by omega), rr_u (by omega)]
  have e4 : ∀ x y, ow_u (ow_u J (m + 5) (13 * c) x) (m + 5) (13 * c + 1) y (m + 4) = J (m + 4) := fun x y => by rw [rr_u (by omega), rr_u (by omega)]
  have r := (cmL_15 (m := m) 11 (ow_u (ow_u J (m + 5) (13 * c) w) (m + 5) (13 * c + 1) (J m 13)) (13 * c) 0 (by rw [e]; exact h) (by omega)).2 k
  rw [e, e4, u_one, u_one] at r
  exact r
theorem rr_cmd {a : Nat} {I : ow_I} (h : a ≠ m) (h4 : a ≠ m + 4) (h5 : a ≠ m + 5) : (M_failsAtCommand m I).2 a = I a := by
  rw [cmd_eq]
  (repeat' split) <;> simp only [rr_fails h, rr_brl h h4, rr_rest h h4, rr_readToken h, rr_st h h5, rr_u h]
theorem fr_cmd {k : Nat} {I : ow_I} (h : k < 6 ∨ k = 12 ∨ (13 < k ∧ k ≠ 15)) : (M_failsAtCommand m I).2 m k = I m k := by
  rw [cmd_eq]
  (repeat' split) <;> simp (disch := omega) only [fr_fails, fr_brl, fr_rest, fr_readToken, fr_st, ow_u_k]
theorem W_cmd {I : ow_I} (hw : md_W m I) : md_W m (M_failsAtCommand m I).2 := by
  rw [cmd_eq]
  (repeat' split) <;> (repeat (with_reducible first | exact hw | refine W_fails ?_ | refine W_st ?_ | refine W_rest ?_ | refine W_brl ?_ | refine W_readToken ?_ | refine mdW_o ?_ _ (by decide) (by decide) (by decide) | refine md_WT ?_))
theorem cmd_15 {I : ow_I} (h0 : 0 ≤ I m 15) (h20 : tn (I m 15) ≤ 20) (h : (M_failsAtCommand m I).1 = false) : 0 ≤ (M_failsAtCommand m I).2 m 15 ∧ tn ((M_failsAtCommand m I).2 m 15) = tn (I m 15) + 1 ∧ tn (I m 15) < 20 := by
  rw [cmd_eq] at h ⊢
  revert h
  (repeat' split)
  · intro h; exact absurd h (by simp [M_fails, lt_eq])
  · intro h; exact tf_abs h
  · intro hz
    rename_i h20' _ hb
    have hlt : tn (I m 15) < 20 := by have := tn_ne h0 h20'; omega
    have t := tn_inc h0 (by omega)
    have e : (M_failsAtBarrel m (ow_u I m 13 (nI 2))).2 m 15 = I m 15 := by rw [fr_brl (by decide), ow_u_k _ _ _ _ (by decide)]
    rw [st_15 (N13_brl (Bool.eq_false_iff.2 hb)).2.2, e]
    exact ⟨t.1, t.2, hlt⟩
  · intro h; exact tf_abs h
  · intro hz
    rename_i h20' _ hb
    have hlt : tn (I m 15) < 20 := by have := tn_ne h0 h20'; omega
    have t := tn_inc h0 (by omega)
    have e : ∀ k, k = 13 ∨ k = 15 → (M_readToken m (M_failsAtRest m (M_wordOf m I) (ow_u I m 13 (nI 2))).2) m k = ow_u I m 13 (nI 2) m k := fun k hk => by rw [fr_readToken (by omega), fr_rest (by omega)]
    rw [st_15 (by rw [e 13 (by omega), ow_u_s]; decide), e 15 (by omega), ow_u_k _ _ _ _ (by decide)]
    exact ⟨t.1, t.2, hlt⟩
  · intro h; exact absurd h (by simp [M_fails, lt_eq])
end
