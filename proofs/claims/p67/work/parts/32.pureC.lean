section
def M_loadSetup (m : Nat) (I : ow_I) : Int32 × ow_I :=
  lt (ow_u I m 18 (nI 0)) (fun (I1 : ow_I) => lt (M_copyBlock m 0 11 I1) (fun (I2 : ow_I) => lt (M_failsAtSetup m I2) (fun (r3 : Bool × ow_I) => lt (ow_u r3.2 m 5 (nI 0)) (fun (I4 : ow_I) => if r3.1 then lt (M_copyBlock m 11 0 I4) (fun (I7 : ow_I) => lt (M_throwsIf m r3.1 (nI 1) I7) (fun (r8 : Bool × ow_I) => if r8.1 then (nI 0, r8.2) else lt (M_keep m 11 r8.2) (fun (I9 : ow_I) => (I9 (m + 1) 7, I9)))) else lt (M_throwsIf m r3.1 (nI 1) I4) (fun (r5 : Bool × ow_I) => if r5.1 then (nI 0, r5.2) else lt (M_keep m 11 r5.2) (fun (I6 : ow_I) => (I6 (m + 1) 7, I6)))))))
def M_failsAtRest (m : Nat) (c : Int32) (I : ow_I) : Bool × ow_I :=
  if c = nI (3 + 0) then lt (M_failsAtBuyerNumber m I) (fun (r1 : Bool × ow_I) => (r1.1, r1.2)) else if c = nI (3 + 1) then lt (M_failsAtNumber m 0 (nI 1) (nI 200) I) (fun (r2 : Bool × ow_I) => (r2.1, r2.2)) else if c = nI (3 + 2) then lt (M_failsAtBarrelNumber m I) (fun (r3 : Bool × ow_I) => if r3.1 then (true, r3.2) else lt (M_failsAtNumber m 1 (nI 1) (nI 8) r3.2) (fun (r4 : Bool × ow_I) => if r4.1 then (true, r4.2) else (false, r4.2))) else if c = nI (3 + 3) then lt (M_failsAtBuyerNumber m I) (fun (r5 : Bool × ow_I) => if r5.1 then (true, r5.2) else lt (M_failsAtNumber m 1 (nI 1) (nI 9999) r5.2) (fun (r6 : Bool × ow_I) => if r6.1 then (true, r6.2) else (false, r6.2))) else lt (M_failsAtBarrelNumber m I) (fun (r7 : Bool × ow_I) => (r7.1, r7.2))
end
section
/-! the reference's texts: commands -/
theorem rr_rest {m a : Nat} {c : Int32} {I : ow_I} (h : a ≠ m) (h4 : a ≠ m + 4) : (M_failsAtRest m c I).2 a = I a := by
  simp only [M_failsAtRest, M_failsAtBuyerNumber, M_failsAtBarrelNumber, lt_eq]
  (repeat' split) <;> simp only [rr_num h h4]
theorem fr_rest {m k : Nat} {c : Int32} {I : ow_I} (h : k < 6 ∨ 11 < k) : (M_failsAtRest m c I).2 m k = I m k := by
  simp only [M_failsAtRest, M_failsAtBuyerNumber, M_failsAtBarrelNumber, lt_eq]
  (repeat' split) <;> simp only [fr_num h]
theorem W_rest {m : Nat} {c : Int32} {I : ow_I} (hw : md_W m I) : md_W m (M_failsAtRest m c I).2 := by
  simp only [M_failsAtRest, M_failsAtBuyerNumber, M_failsAtBarrelNumber, lt_eq]
  (repeat' split) <;> (repeat (with_reducible first | exact hw | refine W_num ?_ | refine md_WT ?_))
theorem i32_le {x : Int32} {a b : Nat} (hb : b < 2 ^ 31) (ha : a ≤ b) (h1 : nI a ≤ x) (h2 : x ≤ nI b) : 0 ≤ x ∧ a ≤ tn x ∧ tn x ≤ b := by
  have h0 : 0 ≤ x := by
    have := nI_ge0 (n := a) (by omega)
    rw [Int32.le_iff_toInt_le] at *
    omega
  rw [← nI_tn h0] at h1 h2
  have e : ∀ n : Nat, n < 2 ^ 31 → (nI n).toInt = n := fun n hn => nI_toInt hn
  have hx : tn x < 2 ^ 31 := by unfold tn Int32.toNatClampNeg; have := Int32.toInt_lt x; omega
  rw [Int32.le_iff_toInt_le, e _ (by omega), e _ hx] at h1
  rw [Int32.le_iff_toInt_le, e _ hx, e _ hb] at h2
  exact ⟨h0, by omega, by omega⟩
/-- a command that can be executed -/
def md_CC (n6 : Int32) (f : Nat → Int32) : Prop :=
  (f 0 = nI 2 ∧ 0 ≤ f 1 ∧ 2 ≤ tn (f 1) ∧ tn (f 1) ≤ 10) ∨ (f 0 = nI 3 ∧ 0 ≤ f 2 ∧ tn (f 2) < tn n6) ∨ (f 0 = nI 4 ∧ 0 ≤ f 2 ∧ 1 ≤ tn (f 2) ∧ tn (f 2) ≤ 200) ∨
  (f 0 = nI 5 ∧ (0 ≤ f 2 ∧ tn (f 2) ≤ 19) ∧ 0 ≤ f 3 ∧ 1 ≤ tn (f 3) ∧ tn (f 3) ≤ 8) ∨ (f 0 = nI 6 ∧ (0 ≤ f 2 ∧ tn (f 2) < tn n6) ∧ 0 ≤ f 3 ∧ 1 ≤ tn (f 3) ∧ tn (f 3) ≤ 9999) ∨ (f 0 = nI 7 ∧ 0 ≤ f 2 ∧ tn (f 2) ≤ 19)
theorem CC2 {n6 : Int32} {f : Nat → Int32} (h : md_CC n6 f) (e : f 0 = nI 2) : 0 ≤ f 1 ∧ 2 ≤ tn (f 1) ∧ tn (f 1) ≤ 10 := by
  rcases h with q | q | q | q | q | q
  · exact q.2
  all_goals exact absurd (e.symm.trans q.1) (by decide)
theorem CC3 {n6 : Int32} {f : Nat → Int32} (h : md_CC n6 f) (e : f 0 = nI 3) : 0 ≤ f 2 ∧ tn (f 2) < tn n6 := by
  rcases h with q | q | q | q | q | q
  · exact absurd (e.symm.trans q.1) (by decide)
  · exact q.2
  all_goals exact absurd (e.symm.trans q.1) (by decide)
theorem CC5 {n6 : Int32} {f : Nat → Int32} (h : md_CC n6 f) (e : f 0 = nI 5) : (0 ≤ f 2 ∧ tn (f 2) ≤ 19) ∧ 0 ≤ f 3 ∧ 1 ≤ tn (f 3) ∧ tn (f 3) ≤ 8 := by
  rcases h with q | q | q | q | q | q
  · exact absurd (e.symm.trans q.1) (by decide)
  · exact absurd (e.symm.trans q.1) (by decide)
  · exact absurd (e.symm.trans q.1) (by decide)
  · exact q.2
  all_goals exact absurd (e.symm.trans q.1) (by decide)
theorem CC6 {n6 : Int32} {f : Nat → Int32} (h : md_CC n6 f) (e : f 0 = nI 6) : (0 ≤ f 2 ∧ tn (f 2) < tn n6) ∧ 0 ≤ f 3 ∧ 1 ≤ tn (f 3) ∧ tn (f 3) ≤ 9999 := by
  rcases h with q | q | q | q | q | q
  · exact absurd (e.symm.trans q.1) (by decide)
  · exact absurd (e.symm.trans q.1) (by decide)
  · exact absurd (e.symm.trans q.1) (by decide)
  · exact absurd (e.symm.trans q.1) (by decide)
  · exact q.2
  · exact absurd (e.symm.trans q.1) (by decide)
theorem CC7 {n6 : Int32} {f : Nat → Int32} (h : md_CC n6 f) (e : f 0 = nI 7) : 0 ≤ f 2 ∧ tn (f 2) ≤ 19 := by
  rcases h with q | q | q | q | q | q
  case inr.inr.inr.inr.inr => exact q.2
  all_goals exact absurd (e.symm.trans q.1) (by decide)
theorem CC4 {n6 : Int32} {f : Nat → Int32} (h : md_CC n6 f) (e2 : ¬ f 0 = nI 2) (e3 : ¬ f 0 = nI 3) (e5 : ¬ f 0 = nI 5) (e6 : ¬ f 0 = nI 6) (e7 : ¬ f 0 = nI 7) : 0 ≤ f 2 ∧ 1 ≤ tn (f 2) ∧ tn (f 2) ≤ 200 := by
  rcases h with q | q | q | q | q | q
  · exact absurd q.1 e2
  · exact absurd q.1 e3
  · exact q.2
  · exact absurd q.1 e5
  · exact absurd q.1 e6
  · exact absurd q.1 e7
end
section
def M_failsAtCommand_L104 (m : Nat) : Nat → ow_I → Nat → Nat → Bool × ow_I
  | 0, I, _, _ => (default, I)
  | n + 1, I, a, i => if tn (I m 13) ≤ i then lt (ow_u I m 15 (I m 15 + (nI 1))) (fun (I5 : ow_I) => lt (M_failsAtEnd m I5) (fun (r6 : Bool × ow_I) => (r6.1, r6.2))) else lt (ow_u I (m + 5) (a + 2 + i) (I (m + 4) i)) (fun (I7 : ow_I) => M_failsAtCommand_L104 m n I7 a (i + 1))
def M_failsAtCommand (m : Nat) (I : ow_I) : Bool × ow_I :=
  if M_in (M_wordOf m I) (nI 2) (nI 7) I then if I m 15 = nI 20 then lt (M_fails m (nI 3) I) (fun (r17 : Bool × ow_I) => (r17.1, r17.2)) else lt (ow_u I m 13 (nI 2)) (fun (I1 : ow_I) => if M_wordOf m I = nI 2 then lt (M_failsAtBarrel m I1) (fun (r11 : Bool × ow_I) => if r11.1 then (true, r11.2) else if M_wordOf m I = nI 2 then lt (ow_u r11.2 (m + 5) (13 * (tn (I m 15))) (M_wordOf m I)) (fun (I12 : ow_I) => lt (ow_u I12 (m + 5) (13 * (tn (I m 15)) + 1) (I12 m 13)) (fun (I13 : ow_I) => M_failsAtCommand_L104 m 11 I13 (13 * (tn (I m 15))) 0)) else lt (M_readToken m r11.2) (fun (I14 : ow_I) => lt (ow_u I14 (m + 5) (13 * (tn (I m 15))) (M_wordOf m I)) (fun (I15 : ow_I) => lt (ow_u I15 (m + 5) (13 * (tn (I m 15)) + 1) (I15 m 13)) (fun (I16 : ow_I) => M_failsAtCommand_L104 m 11 I16 (13 * (tn (I m 15))) 0)))) else lt (M_failsAtRest m (M_wordOf m I) I1) (fun (r2 : Bool × ow_I) => if r2.1 then (true, r2.2) else if M_wordOf m I = nI 2 then lt (ow_u r2.2 (m + 5) (13 * (tn (I m 15))) (M_wordOf m I)) (fun (I3 : ow_I) => lt (ow_u I3 (m + 5) (13 * (tn (I m 15)) + 1) (I3 m 13)) (fun (I4 : ow_I) => M_failsAtCommand_L104 m 11 I4 (13 * (tn (I m 15))) 0)) else lt (M_readToken m r2.2) (fun (I8 : ow_I) => lt (ow_u I8 (m + 5) (13 * (tn (I m 15))) (M_wordOf m I)) (fun (I9 : ow_I) => lt (ow_u I9 (m + 5) (13 * (tn (I m 15)) + 1) (I9 m 13)) (fun (I10 : ow_I) => M_failsAtCommand_L104 m 11 I10 (13 * (tn (I m 15))) 0))))) else lt (M_fails m (nI 1) I) (fun (r18 : Bool × ow_I) => (r18.1, r18.2))
end
section
/-! the reference's texts: what a command's reading leaves -/
def md_st (m : Nat) (w : Int32) (c : Nat) (J : ow_I) : Bool × ow_I := M_failsAtCommand_L104 m 11 (ow_u (ow_u J (m + 5) (13 * c) w) (m + 5) (13 * c + 1) (J m 13)) (13 * c) 0
theorem cmd_eq (m : Nat) (I : ow_I) : M_failsAtCommand m I = if M_in (M_wordOf m I) (nI 2) (nI 7) I then (if I m 15 = nI 20 then M_fails m (nI 3) I else
    if M_wordOf m I = nI 2 then (if (M_failsAtBarrel m (ow_u I m 13 (nI 2))).1 then (true, (M_failsAtBarrel m (ow_u I m 13 (nI 2))).2) else md_st m (M_wordOf m I) (tn (I m 15)) (M_failsAtBarrel m (ow_u I m 13 (nI 2))).2)
    else (if (M_failsAtRest m (M_wordOf m I) (ow_u I m 13 (nI 2))).1 then (true, (M_failsAtRest m (M_wordOf m I) (ow_u I m 13 (nI 2))).2) else md_st m (M_wordOf m I) (tn (I m 15)) (M_readToken m (M_failsAtRest m (M_wordOf m I) (ow_u I m 13 (nI 2))).2))) else M_fails m (nI 1) I := by
  have e : ∀ (J : ow_I) k x, ow_u J (m + 5) k x m = J m := fun J k x => rr_u (by omega)
  by_cases h : M_wordOf m I = nI 2
  · simp only [M_failsAtCommand, lt_eq, md_st, if_pos h, e]
  · simp only [M_failsAtCommand, lt_eq, md_st, if_neg h, e]
section
variable {m : Nat}
theorem rr_cmL {a' : Nat} (h : a' ≠ m) (h5 : a' ≠ m + 5) : ∀ (n : Nat) (I : ow_I) (a i : Nat), (M_failsAtCommand_L104 m n I a i).2 a' = I a' := by
  intro n
  induction n with
  | zero => intro I a i; rfl
  | succ n ih =>
    intro I a i
    simp only [M_failsAtCommand_L104, lt_eq]
    split
    · dsimp only
      rw [rr_end h, rr_u h]
    · rw [ih, rr_u h5]
theorem fr_cmL {k : Nat} (h : k < 6 ∨ (11 < k ∧ k ≠ 15)) : ∀ (n : Nat) (I : ow_I) (a i : Nat), (M_failsAtCommand_L104 m n I a i).2 m k = I m k := by
  intro n
  induction n with
  | zero => intro I a i; rfl
  | succ n ih =>
    intro I a i
    simp only [M_failsAtCommand_L104, lt_eq]
    split
    · dsimp only
      rw [fr_end (by omega), ow_u_k _ _ _ _ (by omega)]
    · rw [ih, rr_u (by omega)]
theorem W_cmL : ∀ (n : Nat) (I : ow_I) (a i : Nat), md_W m I → md_W m (M_failsAtCommand_L104 m n I a i).2 := by
  intro n
  induction n with
  | zero => intro I a i hw; exact hw
  | succ n ih =>
    intro I a i hw
    simp only [M_failsAtCommand_L104, lt_eq]
    split
    · exact W_end (mdW_o hw _ (by decide) (by decide) (by decide))
    · exact ih _ _ _ (mdW_row hw (rr_u (by omega)))
theorem cmL_15 : ∀ (n : Nat) (I : ow_I) (a i : Nat), tn (I m 13) ≤ 10 → 10 - i < n → (M_failsAtCommand_L104 m n I a i).2 m 15 = I m 15 + nI 1 ∧ (∀ k, (M_failsAtCommand_L104 m n I a i).2 (m + 5) k = if a + 2 + i ≤ k ∧ k < a + 2 + tn (I m 13) then I (m + 4) (k - (a + 2)) else I (m + 5) k) := by
  intro n
  induction n with
  | zero => intro I a i _ h; omega
  | succ n ih =>
    intro I a i h10 hn
    simp only [M_failsAtCommand_L104, lt_eq]
    split
    · dsimp only
      refine ⟨by rw [fr_end (by decide), ow_u_s], fun k => ?_⟩
      rw [rr_end (by omega), rr_u (by omega), if_neg (by omega)]
    · have em : ∀ x, ow_u I (m + 5) (a + 2 + i) x m = I m := fun x => rr_u (by omega)
      have e4 : ∀ x, ow_u I (m + 5) (a + 2 + i) x (m + 4) = I (m + 4) := fun x => rr_u (by omega)
      have r := ih (ow_u I (m + 5) (a + 2 + i) (I (m + 4) i)) a (i + 1) (by rw [em]; exact h10) (by omega)
      rw [em] at r
      refine ⟨r.1, fun k => ?_⟩
      rw [r.2 k, e4, u_one]
      by_cases c : k = a + 2 + i
      · rw [if_neg (by omega), if_pos c, if_pos (by omega), c, show a + 2 + i - (a + 2) = i by omega]
      · by_cases d : a + 2 + (i + 1) ≤ k ∧ k < a + 2 + tn (I m 13)
        · rw [if_pos d, if_pos (by omega)]
        · rw [if_neg d, if_neg c, if_neg (by omega)]
theorem rr_st {w : Int32} {c a' : Nat} {J : ow_I} (h : a' ≠ m) (h5 : a' ≠ m + 5) : (md_st m w c J).2 a' = J a' := by
  unfold md_st
  rw [rr_cmL h h5, rr_u h5, rr_u h5]
theorem fr_st {w : Int32} {c k : Nat} {J : ow_I} (h : k < 6 ∨ (11 < k ∧ k ≠ 15)) : (md_st m w c J).2 m k = J m k := by
  unfold md_st
  rw [fr_cmL h, rr_u (by omega), rr_u (by omega)]
theorem W_st {w : Int32} {c : Nat} {J : ow_I} (hw : md_W m J) : md_W m (md_st m w c J).2 := W_cmL _ _ _ _ (mdW_row (mdW_row hw (rr_u (by omega))) (rr_u (by omega)))
theorem st_15 {w : Int32} {c : Nat} {J : ow_I} (h : tn (J m 13) ≤ 10) : (md_st m w c J).2 m 15 = J m 15 + nI 1 := by
  have e : ∀ x y, ow_u (ow_u J (m + 5) (13 * c) x) (m + 5) (13 * c + 1) y m = J m := fun x y => by rw [rr_u (by omega), rr_u (by omega)]
  have r := cmL_15 (m := m) 11 (ow_u (ow_u J (m + 5) (13 * c) w) (m + 5) (13 * c + 1) (J m 13)) (13 * c) 0 (by rw [e]; exact h) (by omega)
  rw [e] at r
  exact r.1
theorem st_5 {w : Int32} {c k : Nat} {J : ow_I} (h : tn (J m 13) ≤ 10) : (md_st m w c J).2 (m + 5) k = if 13 * c + 2 ≤ k ∧ k < 13 * c + 2 + tn (J m 13) then J (m + 4) (k - (13 * c + 2)) else if k = 13 * c + 1 then J m 13 else if k = 13 * c then w else J (m + 5) k := by
  have e : ∀ x y, ow_u (ow_u J (m + 5) (13 * c) x) (m + 5) (13 * c + 1) y m = J m := fun x y => by rw [rr_u (by omega), rr_u (by omega)]
  have e4 : ∀ x y, ow_u (ow_u J (m + 5) (13 * c) x) (m + 5) (13 * c + 1) y (m + 4) = J (m + 4) := fun x y => by rw [rr_u (by omega), rr_u (by omega)]
  have r := (cmL_15 (m := m) 11 (ow_u (ow_u J (m + 5) (13 * c) w) (m + 5) (13 * c + 1) (J m 13)) (13 * c) 0 (by rw [e]; exact h) (by omega)).2 k
  rw [e, e4, u_one, u_one] at r
  exact r
theorem rr_cmd {a : Nat} {I : ow_I} (h : a ≠ m) (h4 : a ≠ m + 4) (h5 : a ≠ m + 5) : (M_failsAtCommand m I).2 a = I a := by
  rw [cmd_eq]
  (repeat' split) <;> simp only [rr_fails h, rr_brl h h4, rr_rest h h4, rr_readToken h, rr_st h h5, rr_u h]
theorem fr_cmd {k : Nat} {I : ow_I} (h : k < 6 ∨ k = 12 ∨ (13 < k ∧ k ≠ 15)) : (M_failsAtCommand m I).2 m k = I m k := by
  rw [cmd_eq]
  (repeat' split) <;> simp (disch := omega) only [fr_fails, fr_brl, fr_rest, fr_readToken, fr_st, ow_u_k]
theorem W_cmd {I : ow_I} (hw : md_W m I) : md_W m (M_failsAtCommand m I).2 := by
  rw [cmd_eq]
  (repeat' split) <;> (repeat (with_reducible first | exact hw | refine W_fails ?_ | refine W_st ?_ | refine W_rest ?_ | refine W_brl ?_ | refine W_readToken ?_ | refine mdW_o ?_ _ (by decide) (by decide) (by decide) | refine md_WT ?_))
theorem cmd_15 {I : ow_I} (h0 : 0 ≤ I m 15) (h20 : tn (I m 15) ≤ 20) (h : (M_failsAtCommand m I).1 = false) : 0 ≤ (M_failsAtCommand m I).2 m 15 ∧ tn ((M_failsAtCommand m I).2 m 15) = tn (I m 15) + 1 ∧ tn (I m 15) < 20 := by
  rw [cmd_eq] at h ⊢
  revert h
  (repeat' split)
  · intro h; exact absurd h (by simp [M_fails, lt_eq])
  · intro h; exact tf_abs h
  · intro hz
    rename_i h20' _ hb
    have hlt : tn (I m 15) < 20 := by have := tn_ne h0 h20'; omega
    have t := tn_inc h0 (by omega)
    have e : (M_failsAtBarrel m (ow_u I m 13 (nI 2))).2 m 15 = I m 15 := by rw [fr_brl (by decide), ow_u_k _ _ _ _ (by decide)]
    rw [st_15 (N13_brl (Bool.eq_false_iff.2 hb)).2.2, e]
    exact ⟨t.1, t.2, hlt⟩
  · intro h; exact tf_abs h
  · intro hz
    rename_i h20' _ hb
    have hlt : tn (I m 15) < 20 := by have := tn_ne h0 h20'; omega
    have t := tn_inc h0 (by omega)
    have e : ∀ k, k = 13 ∨ k = 15 → (M_readToken m (M_failsAtRest m (M_wordOf m I) (ow_u I m 13 (nI 2))).2) m k = ow_u I m 13 (nI 2) m k := fun k hk => by rw [fr_readToken (by omega), fr_rest (by omega)]
    rw [st_15 (by rw [e 13 (by omega), ow_u_s]; decide), e 15 (by omega), ow_u_k _ _ _ _ (by decide)]
    exact ⟨t.1, t.2, hlt⟩
  · intro h; exact absurd h (by simp [M_fails, lt_eq])
end
end
section
def M_failsAtScript_L6 (m : Nat) : Nat → ow_I → Nat → Bool × ow_I
  | 0, I, _ => (default, I)
  | n + 1, I, i => if 500 < i then (false, I) else if I m 9 = 0 then (false, I) else lt (M_failsAtCommand m I) (fun (r2 : Bool × ow_I) => if r2.1 then (true, r2.2) else M_failsAtScript_L6 m n r2.2 (i + 1))
def M_failsAtScript (m : Nat) (I : ow_I) : Bool × ow_I :=
  lt (M_beginText m I) (fun (I1 : ow_I) => M_failsAtScript_L6 m 502 I1 0)
def M_isBarrel (m : Nat) (b : Int32) (I : ow_I) : Bool :=
  if b < 0 then false else if I (m + 1) 7 ≤ b then false else true
end
section
/-! the reference's acts: what they ask for -/
theorem mdV_8' {A : Nat → Int32} (hv : md_V A) : tn (A 8) < 20 := by
  have h1 := hv.2.2.1
  rcases hv.2.2.2.1 with q | q
  · rw [q]; decide
  · omega
theorem mdV_qlt {A : Nat → Int32} (hv : md_V A) (h7 : tn (A 7) < 20) : tn (A 12) < 20 := by
  rw [md_V_eq] at hv
  have := VV_qle hv
  omega
theorem isB {m : Nat} {x : Int32} {I : ow_I} (h : M_isBarrel m x I = true) (h7 : 0 ≤ I (m + 1) 7) : 0 ≤ x ∧ tn x < tn (I (m + 1) 7) := by
  unfold M_isBarrel at h
  split at h
  · exact absurd h (by decide)
  · split at h
    · exact absurd h (by decide)
    · rename_i h1 h2
      have h0 := i_nlt h1
      refine ⟨h0, ?_⟩
      have h2 := i_lt h2
      rw [Int32.lt_iff_toInt_lt] at h2
      rw [Int32.le_iff_toInt_le] at h0 h7
      have z : (0 : Int32).toInt = 0 := by decide
      unfold tn Int32.toNatClampNeg
      omega
theorem RA_8 {m b : Nat} {I : ow_I} (h : M_reasonAgainst m b I ≤ 0) : 0 ≤ I (m + 1) 8 := by
  unfold M_reasonAgainst at h
  split at h
  · split at h
    · assumption
    · exact absurd h (by decide)
  · exact absurd h (by decide)
theorem cS {m b e : Nat} {I : ow_I} (h : M_canSplit m b e I = true) : M_isWaiting m b I = true ∧ nI e < M_ofBarrel m b 0 I ∧ I (m + 1) 7 < nI 20 := by
  unfold M_canSplit at h
  revert h
  (repeat' split) <;> intro h
  case isTrue.isFalse.isFalse => exact ⟨by assumption, i_lt (by assumption), i_lt (by assumption)⟩
  all_goals exact absurd h (by decide)
theorem lt_tn {x y : Int32} (h : x < y) (hx : 0 ≤ x) : 0 ≤ y ∧ tn x < tn y := by
  rw [Int32.lt_iff_toInt_lt] at h
  rw [Int32.le_iff_toInt_le] at hx ⊢
  have z : (0 : Int32).toInt = 0 := by decide
  unfold tn Int32.toNatClampNeg
  omega
theorem isW {m b : Nat} {I : ow_I} (h : M_isWaiting m b I = true) : I (m + 1) (66 + 15 * b + 12) = 0 := by
  unfold M_isWaiting at h
  split at h
  · assumption
  · exact absurd h (by decide)
theorem V_wait {m b : Nat} {I : ow_I} (hv : md_V (I (m + 1))) (hb : b < tn (I (m + 1) 7)) (h : M_isWaiting m b I = true) : ∃ p, p < tn (I (m + 1) 12) ∧ I (m + 1) (16 + p) = nI b := hv.2.2.2.2.2.2.2.2.1 b hb (isW h)
theorem CC4a {n6 : Int32} {f : Nat → Int32} (h : md_CC n6 f) (e : f 0 = nI 4) : 0 ≤ f 2 ∧ 1 ≤ tn (f 2) ∧ tn (f 2) ≤ 200 :=
  CC4 h (fun z => absurd (e.symm.trans z) (by decide)) (fun z => absurd (e.symm.trans z) (by decide)) (fun z => absurd (e.symm.trans z) (by decide)) (fun z => absurd (e.symm.trans z) (by decide)) (fun z => absurd (e.symm.trans z) (by decide))
theorem ae_0 {m b c : Nat} {x : Int32} {I : ow_I} (h : I (m + 1) (66 + 15 * b) = nI c) (hc : c < 9) : M_addEel m b x I (m + 1) (66 + 15 * b) = nI (c + 1) := by
  have e : tn (M_ofBarrel m b 0 I) = c := by show tn (I (m + 1) (66 + 15 * b)) = c; rw [h, tn_nI (by omega)]
  simp (disch := omega) only [M_addEel, lt_eq, u_one, M_putBarrel, if_pos, e, Nat.add_zero, ↓reduceIte]
theorem nb_0 {m : Nat} {r : Int32} {I : ow_I} (h7 : tn (I (m + 1) 7) < 20) (h12 : tn (I (m + 1) 12) < 20) : (M_newBarrel m r I).2 (m + 1) (66 + 15 * tn (I (m + 1) 7)) = nI 0 := by
  simp (disch := omega) only [M_newBarrel, M_enqueue, lt_eq, u_one, M_putBarrel, if_neg, if_pos, Nat.add_zero, ↓reduceIte]
end
section
theorem B20 {A : Nat → Int32} (hv : md_V A) (h : ¬ A 7 = nI 20) : tn (A 7) < 20 := by
  have := tn_ne hv.2.2.1.1 h
  have := hv.2.2.1.2
  omega
theorem cS7 {m b e : Nat} {I : ow_I} (hv : md_V (I (m + 1))) (h : M_canSplit m b e I = true) : tn (I (m + 1) 7) < 20 := by
  have := (lt_tn (cS h).2.2 hv.2.2.1.1).2
  rw [tn_nI (by decide)] at this
  exact this
def M_runBarrel_L29 (m : Nat) (a : Nat) : Nat → ow_I → Nat → Nat → Bool × ow_I
  | 0, I, _, _ => (default, I)
  | n + 1, I, b, i => if tn (I (m + 5) (a + 1)) ≤ i then (true, I) else lt (M_addEel m b (I (m + 5) (a + 2 + i)) I) (fun (I2 : ow_I) => M_runBarrel_L29 m a n I2 b (i + 1))
def M_runBarrel (m : Nat) (a : Nat) (I : ow_I) : Bool × ow_I :=
  if I (m + 1) 7 = nI 20 then (false, I) else lt (M_newBarrel m (I (m + 5) (a + 2)) I) (fun (r1 : Nat × ow_I) => M_runBarrel_L29 m a 11 r1.2 r1.1 1)
def M_runNod (m : Nat) (b : Nat) (I : ow_I) : Bool × ow_I :=
  if M_reasonAgainst m b I ≤ 0 then lt (M_nodNow m b I) (fun (r1 : Int32 × ow_I) => (true, r1.2)) else (false, I)
def M_runSplit (m : Nat) (b : Int32) (e : Nat) (I : ow_I) : Bool × ow_I :=
  if M_isBarrel m b I then if M_canSplit m (tn b) e I then lt (M_splitNow m (tn b) e I) (fun (r1 : Nat × ow_I) => (true, r1.2)) else (false, I) else (false, I)
def M_runWithdraw (m : Nat) (b : Int32) (I : ow_I) : Bool × ow_I :=
  if M_isBarrel m b I then if M_isWaiting m (tn b) I then lt (M_withdrawNow m (tn b) I) (fun (r1 : Int32 × ow_I) => (true, r1.2)) else (false, I) else (false, I)
def M_execute (m : Nat) (a : Nat) (I : ow_I) : Bool × ow_I :=
  if I (m + 5) a = nI (2 + 0) then lt (M_runBarrel m a I) (fun (r1 : Bool × ow_I) => (r1.1, r1.2)) else if I (m + 5) a = nI (2 + 1) then lt (M_runNod m (tn (I (m + 5) (a + 2))) I) (fun (r2 : Bool × ow_I) => (r2.1, r2.2)) else if I (m + 5) a = nI (2 + 2) then lt (M_passAll m (tn (I (m + 5) (a + 2))) I) (fun (r3 : Int32 × ow_I) => (true, r3.2)) else if I (m + 5) a = nI (2 + 3) then lt (M_runSplit m (I (m + 5) (a + 2)) (tn (I (m + 5) (a + 3))) I) (fun (r4 : Bool × ow_I) => (r4.1, r4.2)) else if I (m + 5) a = nI (2 + 4) then lt (M_fundNow m (tn (I (m + 5) (a + 2))) (I (m + 5) (a + 3)) I) (fun (r5 : Int32 × ow_I) => (true, r5.2)) else if I (m + 5) a = nI (2 + 5) then lt (M_runWithdraw m (I (m + 5) (a + 2)) I) (fun (r6 : Bool × ow_I) => (r6.1, r6.2)) else lt (M_passAll m (tn (I (m + 5) (a + 2))) I) (fun (r7 : Int32 × ow_I) => (true, r7.2))
end
section
/-! the reference's acts: what they leave -/
/-- a barrel with eels put behind those that it has -/
def md_fill (A : Nat → Int32) (p c : Nat) (src : Nat → Int32) (cnt : Nat) : Nat → Int32 := fun k => if k = 66 + 15 * p then nI (c + cnt) else if 67 + 15 * p + c ≤ k ∧ k < 67 + 15 * p + c + cnt then src (k - (67 + 15 * p + c)) else A k
theorem fill_0 {A : Nat → Int32} {p c : Nat} {src : Nat → Int32} (h : A (66 + 15 * p) = nI c) : md_fill A p c src 0 = A := by
  funext k
  unfold md_fill
  by_cases z : k = 66 + 15 * p
  · rw [if_pos z, z, h, Nat.add_zero]
  · rw [if_neg z, if_neg (by omega)]
theorem ae_cells {m b c : Nat} {x : Int32} {I : ow_I} (h : I (m + 1) (66 + 15 * b) = nI c) (hc : c < 9) (k : Nat) : M_addEel m b x I (m + 1) k = if k = 66 + 15 * b then nI (c + 1) else if k = 67 + 15 * b + c then x else I (m + 1) k := by
  have e : tn (M_ofBarrel m b 0 I) = c := by show tn (I (m + 1) (66 + 15 * b)) = c; rw [h, tn_nI (by omega)]
  simp only [M_addEel, lt_eq, u_one, M_putBarrel, e, Nat.add_zero]
  by_cases z : k = 66 + 15 * b
  · simp only [if_pos z]
  · simp only [if_neg z]
    by_cases y : k = 67 + 15 * b + c
    · rw [if_pos y, if_pos (by omega)]
    · rw [if_neg y, if_neg (by omega)]
theorem fill_s {m b c cnt : Nat} {src : Nat → Int32} {I : ow_I} (h : I (m + 1) (66 + 15 * b) = nI c) (hc : c + cnt < 9) : md_fill (M_addEel m b (src 0) I (m + 1)) b (c + 1) (fun j => src (j + 1)) cnt = md_fill (I (m + 1)) b c src (cnt + 1) := by
  funext k
  unfold md_fill
  by_cases z : k = 66 + 15 * b
  · rw [if_pos z, if_pos z, show c + 1 + cnt = c + (cnt + 1) by omega]
  · rw [if_neg z, if_neg z]
    rw [ae_cells h (by omega), if_neg z]
    by_cases y : 67 + 15 * b + (c + 1) ≤ k ∧ k < 67 + 15 * b + (c + 1) + cnt
    · rw [if_pos y, if_pos (by omega)]
      show src (k - (67 + 15 * b + (c + 1)) + 1) = _
      rw [show k - (67 + 15 * b + (c + 1)) + 1 = k - (67 + 15 * b + c) by omega]
    · rw [if_neg y]
      by_cases x : k = 67 + 15 * b + c
      · rw [if_pos x, if_pos (by omega), show k - (67 + 15 * b + c) = 0 by omega]
      · rw [if_neg x, if_neg (by omega)]
theorem nb_cells {m : Nat} {r : Int32} {I : ow_I} (h7 : tn (I (m + 1) 7) < 20) (h12 : tn (I (m + 1) 12) < 20) (k : Nat) : (M_newBarrel m r I).2 (m + 1) k = if k = 12 then I (m + 1) 12 + nI 1 else if k = 16 + tn (I (m + 1) 12) then nI (tn (I (m + 1) 7)) else if k = 78 + 15 * tn (I (m + 1) 7) then nI 0 else if k = 7 then I (m + 1) 7 + nI 1 else if k = 80 + 15 * tn (I (m + 1) 7) then -1 else if k = 79 + 15 * tn (I (m + 1) 7) then -1 else if k = 77 + 15 * tn (I (m + 1) 7) then nI 0 else if k = 76 + 15 * tn (I (m + 1) 7) then r else if k = 66 + 15 * tn (I (m + 1) 7) then nI 0 else I (m + 1) k := by
  simp (disch := omega) only [M_newBarrel, M_enqueue, lt_eq, u_one, M_putBarrel, if_neg, ↓reduceIte, Nat.add_zero]
  simp only [show ∀ x : Nat, 66 + 15 * x + 12 = 78 + 15 * x by omega, show ∀ x : Nat, 66 + 15 * x + 14 = 80 + 15 * x by omega, show ∀ x : Nat, 66 + 15 * x + 13 = 79 + 15 * x by omega, show ∀ x : Nat, 66 + 15 * x + 11 = 77 + 15 * x by omega, show ∀ x : Nat, 66 + 15 * x + 10 = 76 + 15 * x by omega]
theorem fill_o {A : Nat → Int32} {p c cnt k : Nat} {src : Nat → Int32} (h : k < 66 + 15 * p ∨ 67 + 15 * p + c + cnt ≤ k) : md_fill A p c src cnt k = A k := by
  unfold md_fill
  rw [if_neg (by omega), if_neg (by omega)]
theorem V_nb {m cnt : Nat} {r : Int32} {src : Nat → Int32} {I : ow_I} (hv : md_V (I (m + 1))) (h7 : tn (I (m + 1) 7) < 20) (h1 : 1 ≤ cnt) (h9 : cnt ≤ 9) : md_V (md_fill ((M_newBarrel m r I).2 (m + 1)) (tn (I (m + 1) 7)) 0 src cnt) := by
  have h12 := mdV_qlt hv h7
  have hE := hv.2.2.2.2.2.2.2.2.2
  rw [md_V_eq] at hv ⊢
  have o : ∀ k, k < 66 → md_fill ((M_newBarrel m r I).2 (m + 1)) (tn (I (m + 1) 7)) 0 src cnt k = (M_newBarrel m r I).2 (m + 1) k := fun k hk => fill_o (by omega)
  rw [o 0 (by omega), o 6 (by omega), o 7 (by omega), o 8 (by omega), o 10 (by omega), o 12 (by omega)]
  have e7 : (M_newBarrel m r I).2 (m + 1) 7 = I (m + 1) 7 + nI 1 := by rw [nb_cells h7 h12]; simp (disch := omega) only [if_neg, ↓reduceIte]
  have e12 : (M_newBarrel m r I).2 (m + 1) 12 = I (m + 1) 12 + nI 1 := by rw [nb_cells h7 h12]; simp only [↓reduceIte]
  rw [nb_o (k := 0) h7 h12 (by omega), nb_o (k := 6) h7 h12 (by omega), nb_o (k := 8) h7 h12 (by omega), nb_o (k := 10) h7 h12 (by omega)]
  refine VV_new hv h7 e7 e12 (fun i hi => ?_) (fun k hk => ?_) (fun k hk => ?_)
  · rw [o _ (by omega), nb_cells h7 h12, if_neg (by omega)]
    by_cases z : i = tn (I (m + 1) 12)
    · rw [if_pos (by omega), if_pos z]
    · simp (disch := omega) only [if_neg]
  · by_cases z : k = tn (I (m + 1) 7)
    · rw [if_pos z, fill_o (by omega), nb_cells h7 h12, if_neg (by omega), if_neg (by omega), if_pos (by omega)]
      decide
    · rw [if_neg z]
      show md_fill _ _ _ _ _ _ = _
      rcases Nat.lt_or_ge k (tn (I (m + 1) 7)) with y | y
      · rw [fill_o (by omega), nb_o h7 h12 (by omega)]
      · rw [fill_o (by omega), nb_o h7 h12 (by omega)]
  · show 0 ≤ md_fill _ _ _ _ _ (66 + 15 * k) ∧ _
    by_cases z : k = tn (I (m + 1) 7)
    · have e : md_fill ((M_newBarrel m r I).2 (m + 1)) (tn (I (m + 1) 7)) 0 src cnt (66 + 15 * k) = nI cnt := by
        unfold md_fill
        rw [if_pos (by omega), Nat.zero_add]
      rw [e, tn_nI (by omega)]
      exact ⟨nI_ge0 (by omega), h1, h9⟩
    · have e : md_fill ((M_newBarrel m r I).2 (m + 1)) (tn (I (m + 1) 7)) 0 src cnt (66 + 15 * k) = I (m + 1) (66 + 15 * k) := by
        rw [fill_o (by omega), nb_o h7 h12 (by omega)]
      rw [e]
      exact hE k (by omega)
/-- a barrel that a command brings -/
theorem rbL {m a : Nat} : ∀ (n : Nat) (I : ow_I) (b i : Nat), I (m + 1) (66 + 15 * b) = nI (i - 1) → 1 ≤ i → i ≤ tn (I (m + 5) (a + 1)) → tn (I (m + 5) (a + 1)) ≤ 10 → 10 - i < n →
    (M_runBarrel_L29 m a n I b i).2 (m + 1) = md_fill (I (m + 1)) b (i - 1) (fun j => I (m + 5) (a + 2 + i + j)) (tn (I (m + 5) (a + 1)) - i) ∧ (M_runBarrel_L29 m a n I b i).1 = true := by
  intro n
  induction n with
  | zero => intro I b i _ _ _ _ h; omega
  | succ n ih =>
    intro I b i h1 h2 h3 h4 hn
    simp only [M_runBarrel_L29, lt_eq]
    split
    · rw [show tn (I (m + 5) (a + 1)) - i = 0 by omega, fill_0 h1]
      exact ⟨rfl, rfl⟩
    · have e5 : ∀ x, M_addEel m b x I (m + 5) = I (m + 5) := fun x => rr_addEel (by omega)
      have r := ih (M_addEel m b (I (m + 5) (a + 2 + i)) I) b (i + 1) (by rw [ae_0 h1 (by omega), show i - 1 + 1 = i + 1 - 1 by omega]) (by omega) (by rw [e5]; omega) (by rw [e5]; omega) (by omega)
      refine ⟨?_, r.2⟩
      rw [r.1, e5]
      have f := fill_s (src := fun j => I (m + 5) (a + 2 + i + j)) (cnt := tn (I (m + 5) (a + 1)) - (i + 1)) h1 (by omega)
      rw [show tn (I (m + 5) (a + 1)) - (i + 1) + 1 = tn (I (m + 5) (a + 1)) - i by omega, show i - 1 + 1 = i + 1 - 1 by omega] at f
      rw [← f]
      have g : (fun j => I (m + 5) (a + 2 + (i + 1) + j)) = fun j => I (m + 5) (a + 2 + i + (j + 1)) := by
        funext j
        rw [show a + 2 + (i + 1) + j = a + 2 + i + (j + 1) by omega]
      rw [g]
      rfl
theorem rr_rbL {m a a' : Nat} (h : a' ≠ m + 1) : ∀ (n : Nat) (I : ow_I) (b i : Nat), (M_runBarrel_L29 m a n I b i).2 a' = I a' := by
  intro n
  induction n with
  | zero => intro I b i; rfl
  | succ n ih =>
    intro I b i
    simp only [M_runBarrel_L29, lt_eq]
    split
    · rfl
    · rw [ih, rr_addEel h]
theorem rr_rb {m a a' : Nat} {I : ow_I} (h : a' ≠ m + 1) : (M_runBarrel m a I).2 a' = I a' := by
  simp only [M_runBarrel, lt_eq]
  split
  · rfl
  · rw [rr_rbL h, rr_newBarrel h]
theorem rb_eq {m a : Nat} {I : ow_I} (h7 : tn (I (m + 1) 7) < 20) (h12 : tn (I (m + 1) 12) < 20) (h2 : 1 ≤ tn (I (m + 5) (a + 1))) (h10 : tn (I (m + 5) (a + 1)) ≤ 10) : (M_runBarrel_L29 m a 11 (M_newBarrel m (I (m + 5) (a + 2)) I).2 (M_newBarrel m (I (m + 5) (a + 2)) I).1 1).2 (m + 1) = md_fill ((M_newBarrel m (I (m + 5) (a + 2)) I).2 (m + 1)) (tn (I (m + 1) 7)) 0 (fun j => I (m + 5) (a + 3 + j)) (tn (I (m + 5) (a + 1)) - 1) ∧ (M_runBarrel_L29 m a 11 (M_newBarrel m (I (m + 5) (a + 2)) I).2 (M_newBarrel m (I (m + 5) (a + 2)) I).1 1).1 = true := by
  have e5 : ∀ x, (M_newBarrel m x I).2 (m + 5) = I (m + 5) := fun x => rr_newBarrel (by omega)
  have r := rbL (m := m) (a := a) 11 (M_newBarrel m (I (m + 5) (a + 2)) I).2 (tn (I (m + 1) 7)) 1 (nb_0 h7 h12) (by omega) (by rw [e5]; omega) (by rw [e5]; omega) (by omega)
  rw [e5] at r
  exact r
theorem V_runBarrel {m a : Nat} {I : ow_I} (hv : md_V (I (m + 1))) (h2 : 2 ≤ tn (I (m + 5) (a + 1))) (h10 : tn (I (m + 5) (a + 1)) ≤ 10) : md_V ((M_runBarrel m a I).2 (m + 1)) := by
  simp only [M_runBarrel, lt_eq]
  split
  · exact hv
  · rename_i h7
    have h7 := B20 hv h7
    rw [(rb_eq h7 (mdV_qlt hv h7) (by omega) h10).1]
    exact V_nb hv h7 (by omega) (by omega)
theorem V_runNod {m b : Nat} {I : ow_I} (hv : md_V (I (m + 1))) (hb : b < tn (I (m + 1) 6)) : md_V ((M_runNod m b I).2 (m + 1)) := by
  simp only [M_runNod, lt_eq]
  split
  · exact V_nodNow hv (RA_8 (by assumption)) hb
  · exact hv
theorem V_withdraw {m b p : Nat} {I : ow_I} (hv : md_V (I (m + 1))) (hb : b < 20) (hp : p < tn (I (m + 1) 12)) (hpm : I (m + 1) (16 + p) = nI b) : md_V ((M_withdrawNow m b I).2 (m + 1)) := by
  have h12 := hv.2.2.2.2.2.1
  have hinj := hv.2.2.2.2.2.2.2.1
  have d := @dq_cells m b p I h12.1 h12.2 hp hpm (fun j hj z => absurd (hinj j p (by omega) hp (z.trans hpm.symm)) (by omega))
  rw [md_V_eq] at hv ⊢
  simp (disch := omega) only [M_withdrawNow, lt_eq, u_one, M_putBarrel, if_neg, ↓reduceIte, d]
  refine VV_congr (VV_deq hv hp hpm hb (x := nI 3) (by decide) rfl (Q' := fun i => if 16 + p ≤ 16 + i ∧ 16 + i < 16 + (tn (I (m + 1) 12) - 1) then I (m + 1) (16 + i + 1) else I (m + 1) (16 + i)) (fun i hi => ?_) (fun k hk => rfl) (Or.inl ⟨rfl, rfl⟩)) (fun i hi => ?_) (fun i hi => ?_) (fun i hi => ?_)
  · by_cases z : i < p
    · rw [if_neg (by omega), if_pos z]
    · rw [if_pos (by omega), if_neg z]; rfl
  · simp (disch := omega) only [if_neg]
  · by_cases c : i = b
    · simp [c]
    · simp (disch := omega) only [if_neg]
  · simp (disch := omega) only [if_neg]
theorem V_runWithdraw {m : Nat} {x : Int32} {I : ow_I} (hv : md_V (I (m + 1))) : md_V ((M_runWithdraw m x I).2 (m + 1)) := by
  simp only [M_runWithdraw, lt_eq]
  split
  · rename_i hb
    split
    · rename_i hw
      have hb := isB hb hv.2.2.1.1
      obtain ⟨p, hp, hq⟩ := V_wait hv hb.2 hw
      exact V_withdraw hv (by have := hv.2.2.1; omega) hp hq
    · exact hv
  · exact hv
theorem V_fund {m b : Nat} {x : Int32} {I : ow_I} (hv : md_V (I (m + 1))) (hb : b < 6) : md_V ((M_fundNow m b x I).2 (m + 1)) := by
  rw [md_V_eq] at hv ⊢
  simp only [M_fundNow, lt_eq]
  split
  all_goals
    simp (disch := omega) only [lt_eq, u_one, M_put, if_neg]
    refine VV_congr hv (fun i hi => ?_) (fun i hi => ?_) (fun i hi => ?_)
    · simp (disch := omega) only [if_neg]
    · simp (disch := omega) only [if_neg]
    · simp (disch := omega) only [if_neg]
/-- a barrel that is cut -/
theorem splL {m b e : Nat} : ∀ (n : Nat) (I : ow_I) (n3 : Nat) (r4 s5 : Int32) (p6 j c : Nat), I (m + 1) (66 + 15 * p6) = nI c → c + (n3 - j) ≤ 9 → j ≤ n3 → n3 ≤ 9 → n3 - j < n → b ≠ p6 →
    ∀ k, (M_splitNow_L40 m b e n I n3 r4 s5 p6 j).2 (m + 1) k = if k = 76 + 15 * b then M_atLeastOne (r4 - s5) I else if k = 66 + 15 * b then nI (n3 - e) else md_fill (I (m + 1)) p6 c (fun i => I (m + 1) (67 + 15 * b + (j + i))) (n3 - j) k := by
  intro n
  induction n with
  | zero => intro I n3 r4 s5 p6 j c _ _ _ _ h; omega
  | succ n ih =>
    intro I n3 r4 s5 p6 j c h1 h2 h3 h4 hn hbp k
    simp only [M_splitNow_L40, lt_eq]
    split
    · rw [show n3 - j = 0 by omega, fill_0 h1]
      simp only [lt_eq, M_putBarrel, u_one, Nat.add_zero, show 66 + 15 * b + 10 = 76 + 15 * b by omega]
      rfl
    · rename_i hj
      rw [ih _ n3 r4 s5 p6 (j + 1) (c + 1) (ae_0 h1 (by omega)) (by omega) (by omega) h4 (by omega) hbp k]
      have f := fill_s (src := fun i => I (m + 1) (67 + 15 * b + (j + i))) (cnt := n3 - (j + 1)) h1 (by omega)
      rw [show n3 - (j + 1) + 1 = n3 - j by omega] at f
      rw [← f]
      have g : (fun i => M_addEel m p6 (M_lengthOf m b j I) I (m + 1) (67 + 15 * b + (j + 1 + i))) = (fun i => if 67 + 15 * b + (j + 1 + i) = 66 + 15 * p6 then nI (c + 1) else if 67 + 15 * b + (j + 1 + i) = 67 + 15 * p6 + c then M_lengthOf m b j I else I (m + 1) (67 + 15 * b + (j + 1 + i))) := by
        funext i
        rw [ae_cells h1 (by omega)]
      rw [g]
      have q : ∀ A : Nat → Int32, md_fill A p6 (c + 1) (fun i => if 67 + 15 * b + (j + 1 + i) = 66 + 15 * p6 then nI (c + 1) else if 67 + 15 * b + (j + 1 + i) = 67 + 15 * p6 + c then M_lengthOf m b j I else I (m + 1) (67 + 15 * b + (j + 1 + i))) (n3 - (j + 1)) = md_fill A p6 (c + 1) (fun i => I (m + 1) (67 + 15 * b + (j + (i + 1)))) (n3 - (j + 1)) := by
        intro A
        funext k
        unfold md_fill
        by_cases z : k = 66 + 15 * p6
        · rw [if_pos z, if_pos z]
        · rw [if_neg z, if_neg z]
          by_cases y : 67 + 15 * p6 + (c + 1) ≤ k ∧ k < 67 + 15 * p6 + (c + 1) + (n3 - (j + 1))
          · rw [if_pos y, if_pos y]
            have hi : k - (67 + 15 * p6 + (c + 1)) < n3 - (j + 1) := by omega
            generalize k - (67 + 15 * p6 + (c + 1)) = i at hi
            dsimp only
            rw [if_neg (by omega), if_neg (by omega), show j + 1 + i = j + (i + 1) by omega]
          · rw [if_neg y, if_neg y]
      have hL : M_lengthOf m b j I = I (m + 1) (67 + 15 * b + (j + 0)) := by
        show I (m + 1) (66 + 15 * b + (1 + j)) = _
        rw [show 66 + 15 * b + (1 + j) = 67 + 15 * b + (j + 0) by omega]
      have hA : ∀ J, M_atLeastOne (r4 - s5) J = M_atLeastOne (r4 - s5) I := fun J => rfl
      rw [q, hA, hL]
theorem spl_1 {m b e : Nat} : ∀ (n : Nat) (I : ow_I) (n3 : Nat) (r4 s5 : Int32) (p6 j : Nat), n3 - j < n → (M_splitNow_L40 m b e n I n3 r4 s5 p6 j).1 = p6 := by
  intro n
  induction n with
  | zero => intro I n3 r4 s5 p6 j h; omega
  | succ n ih =>
    intro I n3 r4 s5 p6 j h
    simp only [M_splitNow_L40, lt_eq]
    split
    · rfl
    · exact ih _ _ _ _ _ _ (by omega)
theorem rr_spL {m b e a' : Nat} (h : a' ≠ m + 1) : ∀ (n : Nat) (I : ow_I) (n3 : Nat) (r4 s5 : Int32) (p6 j : Nat), (M_splitNow_L40 m b e n I n3 r4 s5 p6 j).2 a' = I a' := by
  intro n
  induction n with
  | zero => intro I n3 r4 s5 p6 j; rfl
  | succ n ih =>
    intro I n3 r4 s5 p6 j
    simp only [M_splitNow_L40, lt_eq]
    split
    · dsimp only
      rw [rr_putB h, rr_putB h]
    · rw [ih, rr_addEel h]
theorem rr_spl {m b e a' : Nat} {I : ow_I} (h : a' ≠ m + 1) : (M_splitNow m b e I).2 a' = I a' := by
  simp only [M_splitNow, lt_eq]
  rw [rr_spL h, rr_newBarrel h]
theorem V_cut {F A : Nat → Int32} {b y : Nat} {x : Int32} (hv : md_V F) (hb : b < 20) (h1 : 1 ≤ y) (h9 : y ≤ 9) (h : ∀ k, A k = if k = 76 + 15 * b then x else if k = 66 + 15 * b then nI y else F k) : md_V A := by
  have hE := hv.2.2.2.2.2.2.2.2.2
  have h7 := hv.2.2.1
  rw [md_V_eq] at hv ⊢
  have o : ∀ k, k < 66 → A k = F k := fun k hk => by rw [h, if_neg (by omega), if_neg (by omega)]
  rw [o 0 (by omega), o 6 (by omega), o 7 (by omega), o 8 (by omega), o 10 (by omega), o 12 (by omega)]
  refine VV_congr (VV_eels hv (e' := fun k => A (66 + 15 * k)) (fun k hk => ?_)) (fun i hi => o _ (by omega)) (fun i hi => ?_) (fun i hi => rfl)
  · by_cases z : k = b
    · have e : A (66 + 15 * k) = nI y := by rw [h, if_neg (by omega), if_pos (by omega)]
      show 0 ≤ A (66 + 15 * k) ∧ _
      rw [e, tn_nI (by omega)]
      exact ⟨nI_ge0 (by omega), h1, h9⟩
    · have e : A (66 + 15 * k) = F (66 + 15 * k) := by rw [h, if_neg (by omega), if_neg (by omega)]
      show 0 ≤ A (66 + 15 * k) ∧ _
      rw [e]
      exact hE k hk
  · show A (66 + 15 * i + 12) = _
    rw [h, if_neg (by omega), if_neg (by omega)]
/-- what a cut barrel and its piece hold -/
theorem spl_cells {m b e : Nat} {I : ow_I} (hb : b < tn (I (m + 1) 7)) (h7 : tn (I (m + 1) 7) < 20) (h12 : tn (I (m + 1) 12) < 20) (h9 : tn (M_ofBarrel m b 0 I) ≤ 9) (he : e < tn (M_ofBarrel m b 0 I)) (k : Nat) :
    (M_splitNow m b e I).2 (m + 1) k = if k = 76 + 15 * b then M_atLeastOne (M_ofBarrel m b 10 I - M_ofBarrel m b 10 I * nI e / nI (tn (M_ofBarrel m b 0 I))) I else if k = 66 + 15 * b then nI (tn (M_ofBarrel m b 0 I) - e) else
     md_fill ((M_newBarrel m (M_atLeastOne (M_ofBarrel m b 10 I * nI e / nI (tn (M_ofBarrel m b 0 I))) I) I).2 (m + 1)) (tn (I (m + 1) 7)) 0 (fun i => I (m + 1) (67 + 15 * b + (tn (M_ofBarrel m b 0 I) - e + i))) e k := by
  simp only [M_splitNow, lt_eq]
  generalize M_atLeastOne (M_ofBarrel m b 10 I * nI e / nI (tn (M_ofBarrel m b 0 I))) I = x
  have r := splL (m := m) (b := b) (e := e) 10 (M_newBarrel m x I).2 (tn (M_ofBarrel m b 0 I)) (M_ofBarrel m b 10 I) (M_ofBarrel m b 10 I * nI e / nI (tn (M_ofBarrel m b 0 I))) (tn (I (m + 1) 7)) (tn (M_ofBarrel m b 0 I) - e) 0 (nb_0 h7 h12) (by omega) (by omega) h9 (by omega) (by omega) k
  rw [rdNB1, r]
  have q : ∀ A : Nat → Int32, md_fill A (tn (I (m + 1) 7)) 0 (fun i => (M_newBarrel m x I).2 (m + 1) (67 + 15 * b + (tn (M_ofBarrel m b 0 I) - e + i))) (tn (M_ofBarrel m b 0 I) - (tn (M_ofBarrel m b 0 I) - e)) = md_fill A (tn (I (m + 1) 7)) 0 (fun i => I (m + 1) (67 + 15 * b + (tn (M_ofBarrel m b 0 I) - e + i))) e := by
    intro A
    rw [show tn (M_ofBarrel m b 0 I) - (tn (M_ofBarrel m b 0 I) - e) = e by omega]
    funext k
    unfold md_fill
    by_cases z : k = 66 + 15 * tn (I (m + 1) 7)
    · rw [if_pos z, if_pos z]
    · rw [if_neg z, if_neg z]
      by_cases y : 67 + 15 * tn (I (m + 1) 7) + 0 ≤ k ∧ k < 67 + 15 * tn (I (m + 1) 7) + 0 + e
      · rw [if_pos y, if_pos y]
        dsimp only
        rw [nb_o h7 h12 (by omega)]
      · rw [if_neg y, if_neg y]
  have hA : ∀ v J, M_atLeastOne v J = M_atLeastOne v I := fun v J => rfl
  rw [q, hA]
theorem V_splitNow {m b e : Nat} {I : ow_I} (hv : md_V (I (m + 1))) (hb : b < tn (I (m + 1) 7)) (h7 : tn (I (m + 1) 7) < 20) (he1 : 1 ≤ e) (he : e < tn (M_ofBarrel m b 0 I)) : md_V ((M_splitNow m b e I).2 (m + 1)) := by
  have h9 : tn (M_ofBarrel m b 0 I) ≤ 9 := (hv.2.2.2.2.2.2.2.2.2 b hb).2.2
  exact V_cut (V_nb hv h7 he1 (by omega)) (by omega) (y := tn (M_ofBarrel m b 0 I) - e) (by omega) (by omega) (spl_cells hb h7 (mdV_qlt hv h7) h9 he)
theorem V_runSplit {m e : Nat} {x : Int32} {I : ow_I} (hv : md_V (I (m + 1))) (he1 : 1 ≤ e) (he8 : e ≤ 8) : md_V ((M_runSplit m x e I).2 (m + 1)) := by
  simp only [M_runSplit, lt_eq]
  split
  · rename_i hb
    split
    · rename_i hw
      have hb := isB hb hv.2.2.1.1
      have h := (lt_tn (cS hw).2.1 (nI_ge0 (by omega))).2
      rw [tn_nI (by omega)] at h
      exact V_splitNow hv hb.2 (cS7 hv hw) he1 h
    · exact hv
  · exact hv
theorem V_paL {m n2 : Nat} : ∀ (n : Nat) (I : ow_I) (c : Int32) (i : Nat), md_V (I (m + 1)) → md_V ((M_passAll_L8 m n2 n I c i).2 (m + 1)) := by
  intro n
  induction n with
  | zero => intro I c i hv; exact hv
  | succ n ih =>
    intro I c i hv
    simp only [M_passAll_L8, lt_eq]
    split
    · exact hv
    · exact ih _ _ _ (V_passOne hv)
theorem V_passAll {m n : Nat} {I : ow_I} (hv : md_V (I (m + 1))) : md_V ((M_passAll m n I).2 (m + 1)) := V_paL _ _ _ _ hv
theorem V_execute {m a : Nat} {I : ow_I} (hv : md_V (I (m + 1))) (hcm : md_CC (I (m + 1) 6) (fun k => I (m + 5) (a + k))) : md_V ((M_execute m a I).2 (m + 1)) := by
  simp only [M_execute, lt_eq]
  split
  · rename_i e
    exact V_runBarrel hv (CC2 hcm e).2.1 (CC2 hcm e).2.2
  · split
    · rename_i e
      exact V_runNod hv (CC3 hcm e).2
    · split
      · exact V_passAll hv
      · split
        · rename_i e
          exact V_runSplit hv (CC5 hcm e).2.2.1 (CC5 hcm e).2.2.2
        · split
          · rename_i e
            exact V_fund hv (by have := (CC6 hcm e).1.2; have := hv.2.1; omega)
          · split
            · exact V_runWithdraw hv
            · exact V_passAll hv
end
section
/-! the reference's acts: what they leave as it was -/
/-- only the block of the market, not the number of its buyers -/
def md_F (m : Nat) (I J : ow_I) : Prop := (∀ a, a ≠ m + 1 → J a = I a) ∧ (∀ k, 370 ≤ k ∨ k = 6 ∨ k = 0 → J (m + 1) k = I (m + 1) k)
theorem F_r {m : Nat} {I : ow_I} : md_F m I I := ⟨fun _ _ => rfl, fun _ _ => rfl⟩
theorem F_t {m : Nat} {I J K : ow_I} (h1 : md_F m I J) (h2 : md_F m J K) : md_F m I K := ⟨fun a h => (h2.1 a h).trans (h1.1 a h), fun k h => (h2.2 k h).trans (h1.2 k h)⟩
theorem F_s {m k : Nat} {I J : ow_I} (h : md_F m I J) (x : Int32) (hk : k < 370) (h6 : k ≠ 6) (h0 : k ≠ 0) : md_F m I (ow_u J (m + 1) k x) :=
  ⟨fun a ha => (rr_u ha).trans (h.1 a ha), fun j hj => by rw [ow_u_k _ _ _ _ (by omega)]; exact h.2 j hj⟩
theorem F_p {m b w : Nat} {I J : ow_I} (h : md_F m I J) (x : Int32) (hb : b < 6) (hw : w < 5) : md_F m I (M_put m b w x J) := F_s h x (by omega) (by omega) (by omega)
theorem F_b {m b w : Nat} {I J : ow_I} (h : md_F m I J) (x : Int32) (hb : b < 20) (hw : w < 15) : md_F m I (M_putBarrel m b w x J) := F_s h x (by omega) (by omega) (by omega)
theorem F_close {m : Nat} {I : ow_I} (hv : md_V (I (m + 1))) (h8 : 0 ≤ I (m + 1) 8) : md_F m I (M_closeBarrel m I) := by
  have hb := mdV_8 hv h8
  have hq := mdV_q hv h8
  have h10 := mdV_10 hv
  simp only [M_closeBarrel, lt_eq]
  split
  · refine F_s (F_s (F_s (F_s ?_ _ (by omega) (by omega) (by omega)) _ (by omega) (by omega) (by omega)) _ (by omega) (by omega) (by omega)) _ (by omega) (by omega) (by omega)
    simp only [M_turnBack, lt_eq]
    split
    · exact F_b (F_b F_r _ hb (by omega)) _ hb (by omega)
    · simp only [M_enqueue, lt_eq]
      have e : tn ((M_putBarrel m (tn (I (m + 1) 8)) 11 (M_ofBarrel m (tn (I (m + 1) 8)) 11 I + nI 1) I) (m + 1) 12) = tn (I (m + 1) 12) := by rw [rdPB (by omega)]
      refine F_s (F_s (F_b (F_b F_r _ hb (by omega)) _ hb (by omega)) _ ?_ ?_ ?_) _ (by omega) (by omega) (by omega) <;> rw [e] <;> omega
  · rename_i hl
    have hl := h10 (i_nlt hl)
    refine F_s (F_s (F_s (F_s ?_ _ (by omega) (by omega) (by omega)) _ (by omega) (by omega) (by omega)) _ (by omega) (by omega) (by omega)) _ (by omega) (by omega) (by omega)
    simp only [M_sell, lt_eq]
    exact F_b (F_b (F_b (F_s (F_s (F_p (F_p F_r _ hl (by omega)) _ hl (by omega)) _ (by omega) (by omega) (by omega)) _ (by omega) (by omega) (by omega)) _ hb (by omega)) _ hb (by omega)) _ hb (by omega)
theorem rr_dq34 {m b a : Nat} (h : a ≠ m + 1) : ∀ (n : Nat) (I : ow_I) (j : Nat), M_dequeue_L34 m b n I j a = I a := by
  intro n
  induction n with
  | zero => intro I j; rfl
  | succ n ih =>
    intro I j
    simp only [M_dequeue_L34, lt_eq]
    split
    · rfl
    · rw [ih, rr_u h]
theorem rr_dq2 {m b a : Nat} (h : a ≠ m + 1) : ∀ (n : Nat) (I : ow_I) (j : Nat), M_dequeue_L2 m b n I j a = I a := by
  intro n
  induction n with
  | zero => intro I j; rfl
  | succ n ih =>
    intro I j
    simp only [M_dequeue_L2, lt_eq]
    split
    · rw [rr_dq34 h, rr_u h]
    · rw [ih]
theorem rr_dq {m b a : Nat} {I : ow_I} (h : a ≠ m + 1) : M_dequeue m b I a = I a := rr_dq2 h _ _ _
theorem F_dq {m b p : Nat} {I : ow_I} (h0 : 0 ≤ I (m + 1) 12) (h20 : tn (I (m + 1) 12) ≤ 20) (hp : p < tn (I (m + 1) 12)) (hb : I (m + 1) (16 + p) = nI b) (hn : ∀ j, j < p → ¬ I (m + 1) (16 + j) = nI b) : md_F m I (M_dequeue m b I) :=
  ⟨fun a ha => rr_dq ha, fun k hk => by rw [dq_cells h0 h20 hp hb hn, if_neg (by omega), if_neg (by omega)]⟩
theorem F_open {m : Nat} {I : ow_I} (hv : md_V (I (m + 1))) : md_F m I (M_openFirst m I) := by
  simp only [M_openFirst, lt_eq]
  split
  · exact F_r
  · rename_i hne
    have h12 := hv.2.2.2.2.2.1
    have h0 := mdV_q0 hv (by omega)
    have d := @F_dq m (tn (I (m + 1) 16)) 0 I h12.1 h12.2 (by omega) (nI_tn h0.1).symm (fun j hj => by omega)
    exact F_s (F_s (F_s (F_s (F_b d _ h0.2 (by omega)) _ (by omega) (by omega) (by omega)) _ (by omega) (by omega) (by omega)) _ (by omega) (by omega) (by omega)) _ (by omega) (by omega) (by omega)
theorem F_nod {m b : Nat} {I : ow_I} (hb : b < 6) : md_F m I (M_nodNow m b I).2 := by
  simp only [M_nodNow, lt_eq]
  exact F_p (F_s (F_s (F_s F_r _ (by omega) (by omega) (by omega)) _ (by omega) (by omega) (by omega)) _ (by omega) (by omega) (by omega)) _ hb (by omega)
theorem F_think {m : Nat} {I : ow_I} (hv : md_V (I (m + 1))) (h8 : 0 ≤ I (m + 1) 8) : md_F m I (M_think m I) := by
  simp only [M_think, lt_eq]
  split
  · have hr := V_row hv (I (m + 1) 11 + nI 1) (Or.inr (Or.inl rfl))
    have hf : md_F m I (ow_u I (m + 1) 11 (I (m + 1) 11 + nI 1)) := F_s F_r _ (by omega) (by omega) (by omega)
    split
    · exact hf
    · exact F_t hf (F_close hr (by rw [ow_u_k _ _ _ _ (by decide)]; exact h8))
  · exact F_nod (by have := M_thinker_rng hv (i_nlt (by assumption)); have := hv.2.1; omega)
theorem F_passOne {m : Nat} {I : ow_I} (hv : md_V (I (m + 1))) : md_F m I (M_passOne m I) := by
  have key : ∀ J : ow_I, md_V (J (m + 1)) → md_F m J (if M_isOpenNow m J then if 0 ≤ J (m + 1) 8 then M_think m J else M_openFirst m J else J) := by
    intro J hJ
    split
    · split
      · exact F_think hJ (by assumption)
      · exact F_open hJ
    · exact F_r
  simp only [M_passOne, lt_eq]
  have hr := V_row hv (I (m + 1) 5 + nI 1) (Or.inl rfl)
  have hf : md_F m I (ow_u I (m + 1) 5 (I (m + 1) 5 + nI 1)) := F_s F_r _ (by omega) (by omega) (by omega)
  split
  · split
    · exact F_t hf (key _ hr)
    · exact F_t hf (F_t (F_close hr (i_nlt (by assumption))) (key _ (V_close hr (i_nlt (by assumption)))))
  · exact F_t hf (key _ hr)
theorem F_paL {m n2 : Nat} : ∀ (n : Nat) (I : ow_I) (c : Int32) (i : Nat), md_V (I (m + 1)) → md_F m I (M_passAll_L8 m n2 n I c i).2 := by
  intro n
  induction n with
  | zero => intro I c i hv; exact F_r
  | succ n ih =>
    intro I c i hv
    simp only [M_passAll_L8, lt_eq]
    split
    · exact F_r
    · exact F_t (F_passOne hv) (ih _ _ _ (V_passOne hv))
theorem F_passAll {m n : Nat} {I : ow_I} (hv : md_V (I (m + 1))) : md_F m I (M_passAll m n I).2 := F_paL _ _ _ _ hv
theorem F_runBarrel {m a : Nat} {I : ow_I} (hv : md_V (I (m + 1))) (h2 : 2 ≤ tn (I (m + 5) (a + 1))) (h10 : tn (I (m + 5) (a + 1)) ≤ 10) : md_F m I (M_runBarrel m a I).2 := by
  refine ⟨fun a' ha => rr_rb ha, fun k hk => ?_⟩
  simp only [M_runBarrel, lt_eq]
  split
  · rfl
  · rename_i h7
    have h7 := B20 hv h7
    have h12 := mdV_qlt hv h7
    rw [(rb_eq h7 h12 (by omega) h10).1, fill_o (by omega), nb_o h7 h12 (by omega)]
theorem F_runNod {m b : Nat} {I : ow_I} (hb : b < 6) : md_F m I (M_runNod m b I).2 := by
  simp only [M_runNod, lt_eq]
  split
  · exact F_nod hb
  · exact F_r
theorem F_withdraw {m b p : Nat} {I : ow_I} (hv : md_V (I (m + 1))) (hb : b < 20) (hp : p < tn (I (m + 1) 12)) (hpm : I (m + 1) (16 + p) = nI b) : md_F m I (M_withdrawNow m b I).2 := by
  have h12 := hv.2.2.2.2.2.1
  have hinj := hv.2.2.2.2.2.2.2.1
  have d := @F_dq m b p I h12.1 h12.2 hp hpm (fun j hj z => absurd (hinj j p (by omega) hp (z.trans hpm.symm)) (by omega))
  simp only [M_withdrawNow, lt_eq]
  exact F_b d _ hb (by omega)
theorem F_runWithdraw {m : Nat} {x : Int32} {I : ow_I} (hv : md_V (I (m + 1))) : md_F m I (M_runWithdraw m x I).2 := by
  simp only [M_runWithdraw, lt_eq]
  split
  · rename_i hb
    split
    · rename_i hw
      have hb := isB hb hv.2.2.1.1
      obtain ⟨p, hp, hq⟩ := V_wait hv hb.2 hw
      exact F_withdraw hv (by have := hv.2.2.1; omega) hp hq
    · exact F_r
  · exact F_r
theorem F_fund {m b : Nat} {x : Int32} {I : ow_I} (hb : b < 6) : md_F m I (M_fundNow m b x I).2 := by
  simp only [M_fundNow, lt_eq]
  split
  · exact F_s (F_p F_r _ hb (by omega)) _ (by omega) (by omega) (by omega)
  · exact F_s (F_p F_r _ hb (by omega)) _ (by omega) (by omega) (by omega)
theorem F_splitNow {m b e : Nat} {I : ow_I} (hv : md_V (I (m + 1))) (hb : b < tn (I (m + 1) 7)) (h7 : tn (I (m + 1) 7) < 20) (he : e < tn (M_ofBarrel m b 0 I)) : md_F m I (M_splitNow m b e I).2 := by
  have h9 : tn (M_ofBarrel m b 0 I) ≤ 9 := (hv.2.2.2.2.2.2.2.2.2 b hb).2.2
  have h12 := mdV_qlt hv h7
  exact ⟨fun a ha => rr_spl ha, fun k hk => by rw [spl_cells hb h7 h12 h9 he, if_neg (by omega), if_neg (by omega), fill_o (by omega), nb_o h7 h12 (by omega)]⟩
theorem F_runSplit {m e : Nat} {x : Int32} {I : ow_I} (hv : md_V (I (m + 1))) (he8 : e ≤ 8) : md_F m I (M_runSplit m x e I).2 := by
  simp only [M_runSplit, lt_eq]
  split
  · rename_i hb
    split
    · rename_i hw
      have hb := isB hb hv.2.2.1.1
      have h := (lt_tn (cS hw).2.1 (nI_ge0 (by omega))).2
      rw [tn_nI (by omega)] at h
      exact F_splitNow hv hb.2 (cS7 hv hw) h
    · exact F_r
  · exact F_r
theorem F_execute {m a : Nat} {I : ow_I} (hv : md_V (I (m + 1))) (hcm : md_CC (I (m + 1) 6) (fun k => I (m + 5) (a + k))) : md_F m I (M_execute m a I).2 := by
  simp only [M_execute, lt_eq]
  split
  · rename_i e
    exact F_runBarrel hv (CC2 hcm e).2.1 (CC2 hcm e).2.2
  · split
    · rename_i e
      exact F_runNod (by have := (CC3 hcm e).2; have := hv.2.1; omega)
    · split
      · exact F_passAll hv
      · split
        · rename_i e
          exact F_runSplit hv (CC5 hcm e).2.2.2
        · split
          · rename_i e
            exact F_fund (by have := (CC6 hcm e).1.2; have := hv.2.1; omega)
          · split
            · exact F_runWithdraw hv
            · exact F_passAll hv
/-- commands that can be executed -/
def md_C (m : Nat) (I : ow_I) : Prop := 0 ≤ I m 15 ∧ tn (I m 15) ≤ 20 ∧ ∀ c, c < tn (I m 15) → md_CC (I (m + 1) 6) (fun k => I (m + 5) (13 * c + k))
theorem C_of {m : Nat} {I J : ow_I} (h : md_C m I) (h15 : J m 15 = I m 15) (h6 : J (m + 1) 6 = I (m + 1) 6) (h5 : J (m + 5) = I (m + 5)) : md_C m J := by
  unfold md_C at h ⊢
  rw [h15, h6, h5]
  exact h
theorem C_exec {m a : Nat} {I : ow_I} (h : md_C m I) (hv : md_V (I (m + 1))) (hcm : md_CC (I (m + 1) 6) (fun k => I (m + 5) (a + k))) : md_C m (M_execute m a I).2 := by
  have f := F_execute hv hcm
  exact C_of h (by rw [f.1 m (by omega)]) (f.2 6 (by omega)) (f.1 _ (by omega))
/-- the kept states' counters -/
def kp_o (o k : Nat) : Nat := if k = 8 then (o + 1) % 8 else o
def kp_k (k : Nat) : Nat := if k = 8 then 8 else k + 1
def kp_t (o k : Nat) : Nat := 1 + (kp_o o k + kp_k k - 1) % 8
theorem kp_tr (o k : Nat) : 1 ≤ kp_t o k ∧ kp_t o k ≤ 8 := by
  unfold kp_t
  omega
theorem keep_eq {m b : Nat} {I : ow_I} (ho : 0 ≤ I m 1) (hk : 0 ≤ I m 2) : ∃ J : ow_I, M_keep m b I = M_copyBlock m b (kp_t (tn (I m 1)) (tn (I m 2))) J ∧ (∀ a, a ≠ m → J a = I a) ∧ (∀ k, k ≠ 1 → k ≠ 2 → J m k = I m k) ∧ J m 1 = nI (kp_o (tn (I m 1)) (tn (I m 2))) ∧ J m 2 = nI (kp_k (tn (I m 2))) := by
  unfold M_keep kp_t kp_o kp_k
  split
  · rename_i h
    exact ⟨_, by simp only [lt_eq]; rw [h], fun a ha => rr_u ha, fun k h1 h2 => ow_u_k _ _ _ _ h1 _, ow_u_s _ _ _ _, by rw [ow_u_k _ _ _ _ (by decide), ← h, nI_tn hk]⟩
  · rename_i h
    exact ⟨_, by simp only [lt_eq], fun a ha => rr_u ha, fun k h1 h2 => ow_u_k _ _ _ _ h2 _, by rw [ow_u_k _ _ _ _ (by decide), nI_tn ho], ow_u_s _ _ _ _⟩
theorem rr_keep {m b a : Nat} {I : ow_I} (ho : 0 ≤ I m 1) (hk : 0 ≤ I m 2) (h : a ≠ m) (h1 : a ≠ m + 1) : M_keep m b I a = I a := by
  obtain ⟨J, e, h2, -⟩ := keep_eq (b := b) ho hk
  rw [e, rr_cb h1, h2 a h]
theorem fr_keep {m b k : Nat} {I : ow_I} (ho : 0 ≤ I m 1) (hk : 0 ≤ I m 2) (h1 : k ≠ 1) (h2 : k ≠ 2) : M_keep m b I m k = I m k := by
  obtain ⟨J, e, -, h3, -⟩ := keep_eq (b := b) ho hk
  rw [e, rr_cb (by omega), h3 k h1 h2]
theorem keep_cells {m b : Nat} {I : ow_I} (ho : 0 ≤ I m 1) (hk : 0 ≤ I m 2) (hb : b = 0 ∨ 9 ≤ b) (k : Nat) : M_keep m b I (m + 1) k = if 370 * kp_t (tn (I m 1)) (tn (I m 2)) ≤ k ∧ k < 370 * kp_t (tn (I m 1)) (tn (I m 2)) + 370 then I (m + 1) (370 * b + (k - 370 * kp_t (tn (I m 1)) (tn (I m 2)))) else I (m + 1) k := by
  obtain ⟨J, e, h2, -⟩ := keep_eq (b := b) ho hk
  have t := kp_tr (tn (I m 1)) (tn (I m 2))
  rw [e, cb_cells (by omega), h2 _ (by omega)]
theorem keep_0 {m b : Nat} {I : ow_I} (ho : 0 ≤ I m 1) (hk : 0 ≤ I m 2) (hb : b = 0 ∨ 9 ≤ b) {k : Nat} (h : k < 370 ∨ 3330 ≤ k) : M_keep m b I (m + 1) k = I (m + 1) k := by
  have t := kp_tr (tn (I m 1)) (tn (I m 2))
  rw [keep_cells ho hk hb, if_neg (by omega)]
theorem V_blk {A A' : Nat → Int32} (hv : md_V A) (h : ∀ k, k < 370 → A' k = A k) : md_V A' := by
  rw [md_V_eq] at hv ⊢
  rw [h 0 (by omega), h 6 (by omega), h 7 (by omega), h 8 (by omega), h 10 (by omega), h 12 (by omega)]
  exact VV_congr hv (fun i hi => h _ (by omega)) (fun i hi => h _ (by omega)) (fun i hi => h _ (by omega))
theorem V_keep {m b : Nat} {I : ow_I} (hv : md_V (I (m + 1))) (ho : 0 ≤ I m 1) (hk : 0 ≤ I m 2) (hb : b = 0 ∨ 9 ≤ b) : md_V (M_keep m b I (m + 1)) := V_blk hv (fun k h => keep_0 ho hk hb (by omega))
end
section
/-! the reference's texts: scripts that can be executed -/
theorem le_m1 {x n : Int32} (h6 : 0 ≤ n) (h1 : 1 ≤ tn n) (hn : tn n ≤ 6) (h : nI 0 ≤ x) (h2 : x ≤ n - nI 1) : 0 ≤ x ∧ tn x < tn n := by
  have e : n - nI 1 = nI (tn n - 1) := by rw [← pk_sub (by omega), nI_tn h6]
  rw [e] at h2
  have r := i32_le (a := 0) (by omega) (by omega) h h2
  exact ⟨r.1, by omega⟩
theorem CC_of {n6 : Int32} {f g : Nat → Int32} (h : md_CC n6 f) (e : ∀ k, k < 4 → g k = f k) : md_CC n6 g := by
  unfold md_CC at h ⊢
  rw [e 0 (by omega), e 1 (by omega), e 2 (by omega), e 3 (by omega)]
  exact h
/-- the new command is good, and the others stay -/
theorem C_st {m : Nat} {w : Int32} {J : ow_I} (hC : md_C m J) (h20 : tn (J m 15) < 20) (h2 : 2 ≤ tn (J m 13)) (h10 : tn (J m 13) ≤ 10) (h : md_CC (J (m + 1) 6) (fun k => if k = 0 then w else if k = 1 then J m 13 else J (m + 4) (k - 2))) : md_C m (md_st m w (tn (J m 15)) J).2 := by
  have t := tn_inc hC.1 (by omega)
  unfold md_C
  rw [st_15 h10, rr_st (by omega) (by omega), t.2]
  refine ⟨t.1, by omega, fun c hc => ?_⟩
  by_cases z : c = tn (J m 15)
  · refine CC_of h (fun k hk => ?_)
    rw [st_5 h10, z]
    by_cases k0 : k = 0
    · rw [if_neg (by omega), if_neg (by omega), if_pos (by omega), if_pos k0]
    · by_cases k1 : k = 1
      · rw [if_neg (by omega), if_pos (by omega), if_neg k0, if_pos k1]
      · rw [if_pos (by omega), if_neg k0, if_neg k1, show 13 * tn (J m 15) + k - (13 * tn (J m 15) + 2) = k - 2 by omega]
  · refine CC_of (hC.2.2 c (by omega)) (fun k hk => ?_)
    rw [st_5 h10, if_neg (by omega), if_neg (by omega), if_neg (by omega)]
theorem word_r {m : Nat} {I J : ow_I} (h : M_in (M_wordOf m I) (nI 2) (nI 7) J = true) : 2 ≤ tn (M_wordOf m I) ∧ tn (M_wordOf m I) ≤ 7 ∧ M_wordOf m I = nI (tn (M_wordOf m I)) := by
  have r := in_rng h
  have q := i32_le (a := 2) (b := 7) (by omega) (by omega) r.1 r.2
  exact ⟨q.2.1, q.2.2, (nI_tn q.1).symm⟩
theorem C_cmd {m : Nat} {I : ow_I} (hC : md_C m I) (h6 : 0 ≤ I (m + 1) 6) (h61 : 1 ≤ tn (I (m + 1) 6)) (h66 : tn (I (m + 1) 6) ≤ 6) (h : (M_failsAtCommand m I).1 = false) : md_C m (M_failsAtCommand m I).2 := by
  rw [cmd_eq] at h ⊢
  revert h
  split
  · rename_i hw
    have hw := word_r hw
    split
    · intro h; exact absurd h (by simp [M_fails, lt_eq])
    · rename_i h20
      have hlt : tn (I m 15) < 20 := by have := tn_ne hC.1 h20; have := hC.2.1; omega
      split
      · rename_i h2
        split
        · intro h; exact tf_abs h
        · rename_i hb
          intro _
          have e15 : (M_failsAtBarrel m (ow_u I m 13 (nI 2))).2 m 15 = I m 15 := by rw [fr_brl (by decide), ow_u_k _ _ _ _ (by decide)]
          have n1 := N13_brl (Bool.eq_false_iff.2 hb)
          have n2 := N13b_brl (Bool.eq_false_iff.2 hb)
          have c := C_of (J := (M_failsAtBarrel m (ow_u I m 13 (nI 2))).2) hC e15 (by rw [rr_brl (by omega) (by omega), rr_u (by omega)]) (by rw [rr_brl (by omega) (by omega), rr_u (by omega)])
          rw [← e15]
          refine C_st c (by rw [e15]; exact hlt) n2 n1.2.2 (Or.inl ⟨h2, n1.1, n2, n1.2.2⟩)
      · rename_i h2
        split
        · intro h; exact tf_abs h
        · rename_i hb
          intro _
          have hb := Bool.eq_false_iff.2 hb
          have e : ∀ k, k = 13 ∨ k = 15 → (M_readToken m (M_failsAtRest m (M_wordOf m I) (ow_u I m 13 (nI 2))).2) m k = ow_u I m 13 (nI 2) m k := fun k hk => by rw [fr_readToken (by omega), fr_rest (by omega)]
          have e15 : (M_readToken m (M_failsAtRest m (M_wordOf m I) (ow_u I m 13 (nI 2))).2) m 15 = I m 15 := by rw [e 15 (by omega), ow_u_k _ _ _ _ (by decide)]
          have e13 : (M_readToken m (M_failsAtRest m (M_wordOf m I) (ow_u I m 13 (nI 2))).2) m 13 = nI 2 := by rw [e 13 (by omega), ow_u_s]
          have t2 : tn (nI 2) = 2 := tn_nI (by decide)
          have eo : ∀ a, a ≠ m → a ≠ m + 4 → (M_readToken m (M_failsAtRest m (M_wordOf m I) (ow_u I m 13 (nI 2))).2) a = I a := fun a h h4 => by rw [rr_readToken h, rr_rest h h4, rr_u h]
          have c := C_of hC e15 (by rw [eo (m + 1) (by omega) (by omega)]) (eo (m + 5) (by omega) (by omega))
          have e4 : (M_readToken m (M_failsAtRest m (M_wordOf m I) (ow_u I m 13 (nI 2))).2) (m + 4) = (M_failsAtRest m (M_wordOf m I) (ow_u I m 13 (nI 2))).2 (m + 4) := rr_readToken (by omega)
          rw [← e15]
          refine C_st c (by rw [e15]; exact hlt) (by rw [e13, t2]; omega) (by rw [e13, t2]; omega) ?_
          rw [eo (m + 1) (by omega) (by omega), e13, e4]
          have u1 : ∀ k, (ow_u I m 13 (nI 2)) (m + 1) k = I (m + 1) k := fun k => by rw [rr_u (by omega)]
          generalize ow_u I m 13 (nI 2) = J at hb u1 ⊢
          generalize hwv : M_wordOf m I = w at hb h2 hw ⊢
          obtain ⟨w1, w2, w3⟩ := hw
          generalize tn w = v at w1 w2 w3
          subst w3
          have u4 : ∀ lo hi (K : ow_I), (M_failsAtNumber m 0 lo hi K).1 = false → lo ≤ (M_failsAtNumber m 0 lo hi K).2 (m + 4) 0 ∧ (M_failsAtNumber m 0 lo hi K).2 (m + 4) 0 ≤ hi := fun lo hi K h => nu_rng h
          have h6' : M_failsAtNumber m 0 (nI 0) (J (m + 1) 6 - nI 1) J = M_failsAtNumber m 0 (nI 0) (I (m + 1) 6 - nI 1) J := by rw [u1]
          unfold md_CC
          dsimp only
          simp only [show (0 : Nat) ≠ 1 by decide, show (1 : Nat) ≠ 0 by decide, show (2 : Nat) ≠ 0 by decide, show (2 : Nat) ≠ 1 by decide, show (3 : Nat) ≠ 0 by decide, show (3 : Nat) ≠ 1 by decide, if_false, if_true, show (2 : Nat) - 2 = 0 by decide, show (3 : Nat) - 2 = 1 by decide]
          revert hb
          simp only [M_failsAtRest, M_failsAtBuyerNumber, M_failsAtBarrelNumber, lt_eq, h6']
          split
          · rename_i hv
            intro hb
            have r := le_m1 h6 h61 h66 (u4 _ _ _ hb).1 (u4 _ _ _ hb).2
            exact Or.inr (Or.inl ⟨hv, r⟩)
          · split
            · rename_i hv
              intro hb
              have r := i32_le (a := 1) (b := 200) (by decide) (by decide) (u4 _ _ _ hb).1 (u4 _ _ _ hb).2
              exact Or.inr (Or.inr (Or.inl ⟨hv, r⟩))
            · split
              · rename_i hv
                split
                · intro hb; exact tf_abs hb
                · rename_i hb1
                  split
                  · intro hb; exact tf_abs hb
                  · rename_i hb2
                    intro _
                    have g1 := u4 _ _ _ (Bool.eq_false_iff.2 hb1)
                    have r1 := i32_le (a := 0) (b := 19) (by decide) (by decide) g1.1 g1.2
                    have g2 := nu_rng (Bool.eq_false_iff.2 hb2)
                    have r2 := i32_le (a := 1) (b := 8) (by decide) (by decide) g2.1 g2.2
                    dsimp only
                    have o := @nu_oth m 1 0 (nI 1) (nI 8) (M_failsAtNumber m 0 (nI 0) (nI 19) J).2 (by decide)
                    rw [← o] at r1
                    exact Or.inr (Or.inr (Or.inr (Or.inl ⟨hv, ⟨r1.1, r1.2.2⟩, r2⟩)))
              · split
                · rename_i hv
                  split
                  · intro hb; exact tf_abs hb
                  · rename_i hb1
                    split
                    · intro hb; exact tf_abs hb
                    · rename_i hb2
                      intro _
                      have g1 := u4 _ _ _ (Bool.eq_false_iff.2 hb1)
                      have r1 := le_m1 h6 h61 h66 g1.1 g1.2
                      have g2 := nu_rng (Bool.eq_false_iff.2 hb2)
                      have r2 := i32_le (a := 1) (b := 9999) (by decide) (by decide) g2.1 g2.2
                      dsimp only
                      have o := @nu_oth m 1 0 (nI 1) (nI 9999) (M_failsAtNumber m 0 (nI 0) (I (m + 1) 6 - nI 1) J).2 (by decide)
                      rw [← o] at r1
                      exact Or.inr (Or.inr (Or.inr (Or.inr (Or.inl ⟨hv, r1, r2⟩))))
                · rename_i n3 n4 n5 n6
                  intro hb
                  have r := i32_le (a := 0) (b := 19) (by decide) (by decide) (u4 _ _ _ hb).1 (u4 _ _ _ hb).2
                  refine Or.inr (Or.inr (Or.inr (Or.inr (Or.inr ⟨?_, r.1, r.2.2⟩))))
                  have q : v = 7 := by
                    rcases Nat.lt_or_ge v 7 with z | z
                    · rcases (show v = 2 ∨ v = 3 ∨ v = 4 ∨ v = 5 ∨ v = 6 by omega) with y | y | y | y | y <;> subst y
                      · exact absurd rfl h2
                      · exact absurd rfl n3
                      · exact absurd rfl n4
                      · exact absurd rfl n5
                      · exact absurd rfl n6
                    · omega
                  rw [q]
  · intro h; exact absurd h (by simp [M_fails, lt_eq])
theorem rr_scL {m a : Nat} (h : a ≠ m) (h4 : a ≠ m + 4) (h5 : a ≠ m + 5) : ∀ (n : Nat) (I : ow_I) (i : Nat), (M_failsAtScript_L6 m n I i).2 a = I a := by
  intro n
  induction n with
  | zero => intro I i; rfl
  | succ n ih =>
    intro I i
    simp only [M_failsAtScript_L6, lt_eq]
    (repeat' split) <;> simp only [ih, rr_cmd h h4 h5]
theorem rr_scr {m a : Nat} {I : ow_I} (h : a ≠ m) (h4 : a ≠ m + 4) (h5 : a ≠ m + 5) : (M_failsAtScript m I).2 a = I a := by
  simp only [M_failsAtScript, lt_eq]
  rw [rr_scL h h4 h5, rr_tx h]
theorem fr_scL {m k : Nat} (h : k < 6 ∨ k = 12 ∨ (13 < k ∧ k ≠ 15)) : ∀ (n : Nat) (I : ow_I) (i : Nat), (M_failsAtScript_L6 m n I i).2 m k = I m k := by
  intro n
  induction n with
  | zero => intro I i; rfl
  | succ n ih =>
    intro I i
    simp only [M_failsAtScript_L6, lt_eq]
    (repeat' split) <;> simp only [ih, fr_cmd h]
theorem fr_scr {m k : Nat} {I : ow_I} (h : k < 6 ∨ k = 12 ∨ (13 < k ∧ k ≠ 15)) : (M_failsAtScript m I).2 m k = I m k := by
  simp only [M_failsAtScript, lt_eq]
  rw [fr_scL h, fr_tx (by omega)]
theorem C_scL {m : Nat} : ∀ (n : Nat) (I : ow_I) (i : Nat), md_C m I → 0 ≤ I (m + 1) 6 → 1 ≤ tn (I (m + 1) 6) → tn (I (m + 1) 6) ≤ 6 → 501 - i < n → (M_failsAtScript_L6 m n I i).1 = false → md_C m (M_failsAtScript_L6 m n I i).2 := by
  intro n
  induction n with
  | zero => intro I i _ _ _ _ h; omega
  | succ n ih =>
    intro I i hC h6 h61 h66 hn
    have e : (M_failsAtCommand m I).2 (m + 1) = I (m + 1) := rr_cmd (by omega) (by omega) (by omega)
    simp only [M_failsAtScript_L6, lt_eq]
    (repeat' split)
    · intro _; exact hC
    · intro _; exact hC
    · intro h; exact tf_abs h
    · rename_i hb
      exact ih _ _ (C_cmd hC h6 h61 h66 (Bool.eq_false_iff.2 hb)) (by rw [e]; exact h6) (by rw [e]; exact h61) (by rw [e]; exact h66) (by omega)
theorem C_scr {m : Nat} {I : ow_I} (hv : md_V (I (m + 1))) (h : (M_failsAtScript m I).1 = false) : md_C m (M_failsAtScript m I).2 := by
  revert h
  simp only [M_failsAtScript, lt_eq]
  have e : M_beginText m I (m + 1) = I (m + 1) := rr_tx (by omega)
  have t0 : tn (nI 0) = 0 := rfl
  exact C_scL 502 _ 0 ⟨by rw [fr_tx15]; decide, by rw [fr_tx15, t0]; omega, fun c hc => by rw [fr_tx15, t0] at hc; omega⟩ (by rw [e]; exact hv.2.1.1) (by rw [e]; exact hv.2.1.2.1) (by rw [e]; exact hv.2.1.2.2) (by omega)
end
