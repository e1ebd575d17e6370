/-! the reference's texts: first barrels -/
theorem rr_1L {m a : Nat} (h : a ≠ m) (h1 : a ≠ m + 1) : ∀ (n : Nat) (I : ow_I) (b i : Nat), (M_failsAtFirstBarrel_L40 m n I b i).2 a = I a := by
  intro n
  induction n with
  | zero => intro I b i; rfl
  | succ n ih =>
    intro I b i
    simp only [M_failsAtFirstBarrel_L40, lt_eq]
    (repeat' split) <;> simp only [ih, rr_end h, rr_addEel h1]
theorem fr_1L {m k : Nat} (h : k < 6 ∨ 11 < k) : ∀ (n : Nat) (I : ow_I) (b i : Nat), (M_failsAtFirstBarrel_L40 m n I b i).2 m k = I m k := by
  intro n
  induction n with
  | zero => intro I b i; rfl
  | succ n ih =>
    intro I b i
    simp only [M_failsAtFirstBarrel_L40, lt_eq]
    (repeat' split) <;> simp (disch := omega) only [ih, fr_end, rr_addEel]
theorem W_1L {m : Nat} : ∀ (n : Nat) (I : ow_I) (b i : Nat), md_W m I → md_W m (M_failsAtFirstBarrel_L40 m n I b i).2 := by
  intro n
  induction n with
  | zero => intro I b i hw; exact hw
  | succ n ih =>
    intro I b i hw
    simp only [M_failsAtFirstBarrel_L40, lt_eq]
    split
    · exact W_end hw
    · exact ih _ _ _ (mdW_row hw (rr_addEel (by omega)))
theorem B_1L {m : Nat} : ∀ (n : Nat) (I : ow_I) (b i : Nat), md_E (I (m + 1)) b (i - 1) → 1 ≤ i → i ≤ tn (I m 13) → 2 ≤ tn (I m 13) → tn (I m 13) ≤ 10 → 10 - i < n → md_B ((M_failsAtFirstBarrel_L40 m n I b i).2 (m + 1)) ∧ (M_failsAtFirstBarrel_L40 m n I b i).2 (m + 1) 7 = I (m + 1) 7 ∧ (M_failsAtFirstBarrel_L40 m n I b i).2 (m + 1) 6 = I (m + 1) 6 := by
  intro n
  induction n with
  | zero => intro I b i _ _ _ _ _ h; omega
  | succ n ih =>
    intro I b i hE h1 hi h2 h10 hn
    simp only [M_failsAtFirstBarrel_L40, lt_eq]
    split
    · rw [rr_end (by omega)]
      exact ⟨E_B hE (by omega) (by omega), rfl, rfl⟩
    · have e : ∀ x, (M_addEel m b x I) m = I m := fun x => rr_addEel (by omega)
      have hE' := fun x => @E_add m b (i - 1) x I hE (by omega)
      rw [show i - 1 + 1 = i + 1 - 1 by omega] at hE'
      have r := ih (M_addEel m b (I (m + 4) i) I) b (i + 1) (hE' _) (by omega) (by rw [e]; omega) (by rw [e]; omega) (by rw [e]; omega) (by omega)
      have e7 : ∀ k, k < 66 → M_addEel m b (I (m + 4) i) I (m + 1) k = I (m + 1) k := fun k hk => by
        simp (disch := omega) only [M_addEel, lt_eq, u_one, M_putBarrel, if_neg]
      rw [e7 7 (by omega), e7 6 (by omega)] at r
      exact r
theorem N13b_brL {m : Nat} : ∀ (n : Nat) (I : ow_I), 0 ≤ I m 13 → 1 ≤ tn (I m 13) → tn (I m 13) ≤ 10 → 10 - tn (I m 13) < n → (M_failsAtBarrel_L23 m n I).1 = false → 2 ≤ tn ((M_failsAtBarrel_L23 m n I).2 m 13) := by
  intro n
  induction n with
  | zero => intro I h0 h1 h2 h3; omega
  | succ n ih =>
    intro I h0 h1 h2 h3
    have key : ∀ J : ow_I, J m 13 = I m 13 → tn (I m 13) ≤ 9 → (M_failsAtBarrel_L23 m n (M_readToken m (ow_u J m 13 (J m 13 + nI 1)))).1 = false → 2 ≤ tn ((M_failsAtBarrel_L23 m n (M_readToken m (ow_u J m 13 (J m 13 + nI 1)))).2 m 13) := by
      intro J hJ h9
      have e : (M_readToken m (ow_u J m 13 (J m 13 + nI 1))) m 13 = I m 13 + nI 1 := by
        rw [fr_readToken (by omega), ow_u_s, hJ]
      have t := tn_inc h0 (by omega)
      exact ih _ (by rw [e]; exact t.1) (by rw [e, t.2]; omega) (by rw [e, t.2]; omega) (by rw [e, t.2]; omega)
    have f : ∀ p lo hi, (M_failsAtThis m p lo hi I).2 m 13 = I m 13 := fun p lo hi => fr_this (by omega)
    simp only [M_failsAtBarrel_L23, lt_eq]
    (repeat' split)
    · intro h; exact tf_abs h
    · exact key _ (f _ _ _) (by assumption)
    · intro h; exact absurd h (by simp [M_fails, lt_eq])
    · intro h; exact tf_abs h
    · exact key _ (f _ _ _) (by assumption)
    · intro h; exact absurd h (by simp [M_fails, lt_eq])
    · intro _; show 2 ≤ tn (I m 13); omega
theorem N13b_brl {m : Nat} {I : ow_I} (h : (M_failsAtBarrel m I).1 = false) : 2 ≤ tn ((M_failsAtBarrel m I).2 m 13) := by
  revert h
  simp only [M_failsAtBarrel, lt_eq]
  split
  · intro h; exact tf_abs h
  · have e : ∀ J : ow_I, (M_readToken m (ow_u J m 13 (nI 1))) m 13 = nI 1 := fun J => by rw [fr_readToken (by omega), ow_u_s]
    exact N13b_brL _ _ (by rw [e]; decide) (by rw [e]; decide) (by rw [e]; decide) (by rw [e, tn_nI (by decide)]; omega)
theorem rr_1st {m a : Nat} {I : ow_I} (h : a ≠ m) (h1 : a ≠ m + 1) (h4 : a ≠ m + 4) : (M_failsAtFirstBarrel m I).2 a = I a := by
  simp only [M_failsAtFirstBarrel, lt_eq]
  (repeat' split) <;> simp only [rr_1L h h1, rr_newBarrel h1, rr_brl h h4, rr_fails h]
theorem fr_1st {m k : Nat} {I : ow_I} (h : k < 6 ∨ k = 12 ∨ 13 < k) : (M_failsAtFirstBarrel m I).2 m k = I m k := by
  simp only [M_failsAtFirstBarrel, lt_eq]
  (repeat' split) <;> simp (disch := omega) only [fr_1L, rr_newBarrel, fr_brl, fr_fails]
theorem W_1st {m : Nat} {I : ow_I} (hw : md_W m I) : md_W m (M_failsAtFirstBarrel m I).2 := by
  simp only [M_failsAtFirstBarrel, lt_eq]
  (repeat' split) <;> (repeat (with_reducible first | exact hw | refine W_fails ?_ | refine W_1L _ _ _ _ ?_ | refine mdW_row ?_ (rr_newBarrel (by omega)) | refine W_brl ?_ | refine md_WT ?_))
theorem B_1st {m : Nat} {I : ow_I} (hB : md_B (I (m + 1))) (h : (M_failsAtFirstBarrel m I).1 = false) : md_B ((M_failsAtFirstBarrel m I).2 (m + 1)) ∧ tn ((M_failsAtFirstBarrel m I).2 (m + 1) 7) = tn (I (m + 1) 7) + 1 ∧ (M_failsAtFirstBarrel m I).2 (m + 1) 6 = I (m + 1) 6 := by
  revert h
  simp only [M_failsAtFirstBarrel, lt_eq]
  (repeat' split)
  · intro h; exact absurd h (by simp [M_fails, lt_eq])
  · intro h; exact tf_abs h
  · intro hz
    rename_i h7 hf
    have hf := Bool.eq_false_iff.2 hf
    have eJ : (M_failsAtBarrel m I).2 (m + 1) = I (m + 1) := rr_brl (by omega) (by omega)
    have h7 := B_lt hB h7
    have n1 := N13_brl hf
    have n2 := N13b_brl hf
    generalize (M_failsAtBarrel m I).2 = J at eJ n1 n2 ⊢
    rw [← eJ] at hB h7 ⊢
    have em : (M_newBarrel m (J (m + 4) 0) J).2 m = J m := rr_newBarrel (by omega)
    have r := B_1L 11 (M_newBarrel m (J (m + 4) 0) J).2 (tn (J (m + 1) 7)) 1 (E_new hB h7) (by omega) (by rw [em]; omega) (by rw [em]; omega) (by rw [em]; omega) (by omega)
    have e6 : (M_newBarrel m (J (m + 4) 0) J).2 (m + 1) 6 = J (m + 1) 6 := by
      simp (disch := omega) only [M_newBarrel, M_enqueue, lt_eq, u_one, M_putBarrel, if_neg]
    have e7 : (M_newBarrel m (J (m + 4) 0) J).2 (m + 1) 7 = J (m + 1) 7 + nI 1 := by
      simp (disch := omega) only [M_newBarrel, M_enqueue, lt_eq, u_one, M_putBarrel, if_neg, ↓reduceIte]
    refine ⟨r.1, ?_, ?_⟩
    · rw [rdNB1, r.2.1, e7, (tn_inc hB.2.2.1.1 (by omega)).2]
    · rw [rdNB1, r.2.2, e6]
theorem byr_6 {m : Nat} {I : ow_I} (hB : md_B (I (m + 1))) (h : (M_failsAtBuyer m I).1 = false) : tn ((M_failsAtBuyer m I).2 (m + 1) 6) = tn (I (m + 1) 6) + 1 := (B_byr hB).2 h
