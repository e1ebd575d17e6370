/-! the reference's texts: markets, buyers, barrels -/
theorem tf_abs {x : ow_I} {P : Prop} (h : ((true, x) : Bool × ow_I).1 = false) : P := Bool.noConfusion h
theorem tf2 {P : Prop} (h : true = false) : P := Bool.noConfusion h
theorem md_WT {m : Nat} {I : ow_I} (h : md_W m I) : md_T m I := h.1
theorem th_rng {m p : Nat} {lo hi : Int32} {I : ow_I} (h : (M_failsAtThis m p lo hi I).1 = false) : lo ≤ (M_failsAtThis m p lo hi I).2 (m + 4) p ∧ (M_failsAtThis m p lo hi I).2 (m + 4) p ≤ hi := by
  revert h
  simp only [M_failsAtThis, lt_eq]
  split
  · split
    · rename_i h2
      intro _
      simp only [ow_u_s]
      unfold M_in at h2
      split at h2
      · exact absurd h2 (by decide)
      · split at h2
        · exact absurd h2 (by decide)
        · exact ⟨i_nlt (by assumption), i_nlt (by assumption)⟩
    · intro h; exact absurd h (by simp [M_fails, lt_eq])
  · intro h; exact absurd h (by simp [M_fails, lt_eq])
theorem th_oth {m p q : Nat} {lo hi : Int32} {I : ow_I} (h : q ≠ p) : (M_failsAtThis m p lo hi I).2 (m + 4) q = I (m + 4) q := by
  simp only [M_failsAtThis, M_fails, lt_eq]
  (repeat' split) <;> simp (disch := omega) only [ow_u_k, ow_u_a]
theorem nu_rng {m p : Nat} {lo hi : Int32} {I : ow_I} (h : (M_failsAtNumber m p lo hi I).1 = false) : lo ≤ (M_failsAtNumber m p lo hi I).2 (m + 4) p ∧ (M_failsAtNumber m p lo hi I).2 (m + 4) p ≤ hi := by
  simp only [M_failsAtNumber, lt_eq] at h ⊢
  exact th_rng h
theorem nu_oth {m p q : Nat} {lo hi : Int32} {I : ow_I} (h : q ≠ p) : (M_failsAtNumber m p lo hi I).2 (m + 4) q = I (m + 4) q := by
  simp only [M_failsAtNumber, lt_eq, th_oth h, rr_readToken (show m + 4 ≠ m by omega)]
theorem rr_mkt {m a : Nat} {I : ow_I} (h : a ≠ m) (h1 : a ≠ m + 1) (h4 : a ≠ m + 4) : (M_failsAtMarket m I).2 a = I a := by
  simp only [M_failsAtMarket, lt_eq]
  (repeat' split) <;> simp only [rr_num h h4, rr_next h, rr_begin h1, rr_fails h]
theorem fr_mkt {m k : Nat} {I : ow_I} (h : k < 6 ∨ 11 < k) : (M_failsAtMarket m I).2 m k = I m k := by
  simp only [M_failsAtMarket, lt_eq]
  (repeat' split) <;> simp (disch := omega) only [fr_num, fr_next, rr_begin, fr_fails]
theorem W_mkt {m : Nat} {I : ow_I} (hw : md_W m I) : md_W m (M_failsAtMarket m I).2 := by
  simp only [M_failsAtMarket, lt_eq]
  (repeat' split) <;> (repeat (with_reducible first | exact hw | refine W_fails ?_ | refine W_num ?_ | refine W_next ?_ | refine mdT_row ?_ (rr_begin (by omega)) | refine md_WT ?_))
theorem rr_byr {m a : Nat} {I : ow_I} (h : a ≠ m) (h1 : a ≠ m + 1) (h4 : a ≠ m + 4) : (M_failsAtBuyer m I).2 a = I a := by
  simp only [M_failsAtBuyer, lt_eq]
  (repeat' split) <;> simp only [rr_num h h4, rr_next h, rr_addBuyer h1, rr_fails h]
theorem fr_byr {m k : Nat} {I : ow_I} (h : k < 6 ∨ 11 < k) : (M_failsAtBuyer m I).2 m k = I m k := by
  simp only [M_failsAtBuyer, lt_eq]
  (repeat' split) <;> simp (disch := omega) only [fr_num, fr_next, rr_addBuyer, fr_fails]
theorem W_byr {m : Nat} {I : ow_I} (hw : md_W m I) : md_W m (M_failsAtBuyer m I).2 := by
  simp only [M_failsAtBuyer, lt_eq]
  (repeat' split) <;> (repeat (with_reducible first | exact hw | refine W_fails ?_ | refine W_num ?_ | refine W_next ?_ | refine mdT_row ?_ (rr_addBuyer (by omega)) | refine md_WT ?_))
theorem rr_brL {m a : Nat} (h : a ≠ m) (h4 : a ≠ m + 4) : ∀ (n : Nat) (I : ow_I), (M_failsAtBarrel_L23 m n I).2 a = I a := by
  intro n
  induction n with
  | zero => intro I; rfl
  | succ n ih =>
    intro I
    simp only [M_failsAtBarrel_L23, lt_eq]
    (repeat' split) <;> simp only [ih, rr_readToken h, rr_u h, rr_this h h4, rr_fails h]
theorem fr_brL {m k : Nat} (h : k < 6 ∨ k = 12 ∨ 13 < k) : ∀ (n : Nat) (I : ow_I), (M_failsAtBarrel_L23 m n I).2 m k = I m k := by
  intro n
  induction n with
  | zero => intro I; rfl
  | succ n ih =>
    intro I
    simp only [M_failsAtBarrel_L23, lt_eq]
    (repeat' split) <;> simp (disch := omega) only [ih, fr_readToken, ow_u_k, fr_this, fr_fails]
theorem W_brL {m : Nat} : ∀ (n : Nat) (I : ow_I), md_W m I → md_W m (M_failsAtBarrel_L23 m n I).2 := by
  intro n
  induction n with
  | zero => intro I hw; exact hw
  | succ n ih =>
    intro I hw
    have g := @W_readToken m
    simp only [M_failsAtBarrel_L23, lt_eq]
    (repeat' split) <;> (repeat (with_reducible first | exact hw | refine ih _ ?_ | refine W_readToken ?_ | refine mdT_o ?_ _ (by decide) (by decide) | refine W_this ?_ | refine W_fails ?_ | refine md_WT ?_))
theorem N13_brL {m : Nat} : ∀ (n : Nat) (I : ow_I), 0 ≤ I m 13 → 1 ≤ tn (I m 13) → tn (I m 13) ≤ 10 → 0 ≤ (M_failsAtBarrel_L23 m n I).2 m 13 ∧ 1 ≤ tn ((M_failsAtBarrel_L23 m n I).2 m 13) ∧ tn ((M_failsAtBarrel_L23 m n I).2 m 13) ≤ 10 := by
  intro n
  induction n with
  | zero => intro I h0 h1 h2; exact ⟨h0, h1, h2⟩
  | succ n ih =>
    intro I h0 h1 h2
    have key : ∀ J : ow_I, J m 13 = I m 13 → tn (I m 13) ≤ 9 → 0 ≤ (M_failsAtBarrel_L23 m n (M_readToken m (ow_u J m 13 (J m 13 + nI 1)))).2 m 13 ∧ 1 ≤ tn ((M_failsAtBarrel_L23 m n (M_readToken m (ow_u J m 13 (J m 13 + nI 1)))).2 m 13) ∧ tn ((M_failsAtBarrel_L23 m n (M_readToken m (ow_u J m 13 (J m 13 + nI 1)))).2 m 13) ≤ 10 := by
      intro J hJ h9
      have e : (M_readToken m (ow_u J m 13 (J m 13 + nI 1))) m 13 = I m 13 + nI 1 := by
        rw [fr_readToken (by omega), ow_u_s, hJ]
      have t := tn_inc h0 (by omega)
      exact ih _ (by rw [e]; exact t.1) (by rw [e, t.2]; omega) (by rw [e, t.2]; omega)
    have f : ∀ p lo hi, (M_failsAtThis m p lo hi I).2 m 13 = I m 13 := fun p lo hi => fr_this (by omega)
    simp only [M_failsAtBarrel_L23, lt_eq]
    (repeat' split)
    · simp only [f]; exact ⟨h0, h1, h2⟩
    · exact key _ (f _ _ _) (by assumption)
    · simp (disch := omega) only [fr_fails, f]; exact ⟨h0, h1, h2⟩
    · simp only [f]; exact ⟨h0, h1, h2⟩
    · exact key _ (f _ _ _) (by assumption)
    · simp (disch := omega) only [fr_fails, f]; exact ⟨h0, h1, h2⟩
    · exact ⟨h0, h1, h2⟩
theorem rr_brl {m a : Nat} {I : ow_I} (h : a ≠ m) (h4 : a ≠ m + 4) : (M_failsAtBarrel m I).2 a = I a := by
  simp only [M_failsAtBarrel, lt_eq]
  (repeat' split) <;> simp only [rr_brL h h4, rr_num h h4, rr_readToken h, rr_u h]
theorem fr_brl {m k : Nat} {I : ow_I} (h : k < 6 ∨ k = 12 ∨ 13 < k) : (M_failsAtBarrel m I).2 m k = I m k := by
  simp only [M_failsAtBarrel, lt_eq]
  (repeat' split) <;> simp (disch := omega) only [fr_brL, fr_num, fr_readToken, ow_u_k]
theorem W_brl {m : Nat} {I : ow_I} (ht : md_T m I) : md_W m (M_failsAtBarrel m I).2 := by
  simp only [M_failsAtBarrel, lt_eq]
  (repeat' split) <;> (repeat (with_reducible first | exact ht | refine W_brL _ _ ?_ | refine W_num ?_ | refine W_readToken ?_ | refine mdT_o ?_ _ (by decide) (by decide) | refine md_WT ?_))
theorem N13_brl {m : Nat} {I : ow_I} (h : (M_failsAtBarrel m I).1 = false) : 0 ≤ (M_failsAtBarrel m I).2 m 13 ∧ 1 ≤ tn ((M_failsAtBarrel m I).2 m 13) ∧ tn ((M_failsAtBarrel m I).2 m 13) ≤ 10 := by
  revert h
  simp only [M_failsAtBarrel, lt_eq]
  (repeat' split)
  · intro h; exact tf_abs h
  · intro h
    have e : ∀ J : ow_I, (M_readToken m (ow_u J m 13 (nI 1))) m 13 = nI 1 := fun J => by rw [fr_readToken (by omega), ow_u_s]
    exact N13_brL _ _ (by rw [e]; decide) (by rw [e]; decide) (by rw [e]; decide)
theorem rr_tx {m a : Nat} {I : ow_I} (h : a ≠ m) : M_beginText m I a = I a := by
  simp only [M_beginText, lt_eq, rr_readToken h, rr_u h]
theorem fr_tx {m k : Nat} {I : ow_I} (h : k < 6 ∨ (11 < k ∧ k ≠ 15)) : M_beginText m I m k = I m k := by
  simp (disch := omega) only [M_beginText, lt_eq, fr_readToken, ow_u_k]
theorem fr_tx15 {m : Nat} {I : ow_I} : M_beginText m I m 15 = nI 0 := by
  simp (disch := omega) only [M_beginText, lt_eq, fr_readToken, ow_u_s]
theorem W_tx {m : Nat} {I : ow_I} (hl : 0 ≤ I m 5) (hlb : tn (I m 5) ≤ 500) : md_W m (M_beginText m I) := by
  simp only [M_beginText, lt_eq]
  refine W_readToken ?_
  unfold md_T
  simp (disch := omega) only [ow_u_k, ow_u_s]
  exact ⟨⟨hl, hlb⟩, nI_ge0 (by decide), by rw [tn_nI (by decide)]; omega⟩
def md_B (A : Nat → Int32) : Prop := ¬ A 0 = 0 ∧ (0 ≤ A 6 ∧ tn (A 6) ≤ 6) ∧ (0 ≤ A 7 ∧ tn (A 7) ≤ 20) ∧ A 8 = -1 ∧ A 10 = -1 ∧ A 12 = A 7 ∧ ∀ i, i < tn (A 7) → A (16 + i) = nI i ∧ A (66 + 15 * i + 12) = 0 ∧ 0 ≤ A (66 + 15 * i) ∧ 1 ≤ tn (A (66 + 15 * i)) ∧ tn (A (66 + 15 * i)) ≤ 9
theorem tn_ne {x : Int32} {n : Nat} (h0 : 0 ≤ x) (h : ¬ x = nI n) : tn x ≠ n := fun z => h (by rw [← z]; exact (nI_tn h0).symm)
theorem B_lt {A : Nat → Int32} (hB : md_B A) (h : ¬ A 7 = nI 20) : tn (A 7) < 20 := by
  have := tn_ne hB.2.2.1.1 h
  have := hB.2.2.1.2
  omega
theorem B_V {A : Nat → Int32} (hB : md_B A) (h6 : 1 ≤ tn (A 6)) : md_V A := by
  obtain ⟨h0, h1, h2, h3, h4, h5, hq⟩ := hB
  refine ⟨h0, ⟨h1.1, h6, h1.2⟩, h2, Or.inl h3, Or.inl h4, by rw [h5]; exact h2, ?_, ?_, ?_, ?_⟩
  · intro i hi
    rw [h5] at hi
    have q := hq i hi
    rw [q.1, tn_nI (by omega)]
    exact ⟨nI_ge0 (by omega), hi, q.2.1⟩
  · intro i j hi hj e
    rw [h5] at hi hj
    rw [(hq i hi).1, (hq j hj).1] at e
    exact (nI_eq (by omega) (by omega)).1 e
  · intro k hk hs
    exact ⟨k, by rw [h5]; exact hk, (hq k hk).1⟩
  · intro k hk
    exact (hq k hk).2.2
theorem bm_cells {m : Nat} {a0 a1 a2 a3 a4 : Int32} {I : ow_I} {k : Nat} : M_beginMarket m a0 a1 a2 a3 a4 I (m + 1) k = if k = 10 then -1 else if k = 8 then -1 else if k = 4 then a4 else if k = 3 then a3 else if k = 2 then a2 else if k = 1 then a1 else if k = 0 then a0 else if k < 370 then 0 else I (m + 1) k := by
  have key : ∀ (n : Nat) (I : ow_I) (i : Nat), 370 - i < n → i ≤ 370 → (∀ j, j < i → I (m + 1) j = 0) → M_beginMarket_L3 m a0 a1 a2 a3 a4 n I i (m + 1) k = if k = 10 then -1 else if k = 8 then -1 else if k = 4 then a4 else if k = 3 then a3 else if k = 2 then a2 else if k = 1 then a1 else if k = 0 then a0 else if k < 370 then 0 else I (m + 1) k := by
    intro n
    induction n with
    | zero => intro I i h; omega
    | succ n ih =>
      intro I i h h2 h3
      simp only [M_beginMarket_L3, lt_eq]
      split
      · have e : i = 370 := by omega
        subst e
        simp only [ow_u, true_and]
        have e : nI 0 = (0 : Int32) := by decide
        by_cases hk : k < 370
        · simp [h3 k hk, hk]
        · simp [hk]
      · rw [ih _ _ (by omega) (by omega)]
        · have e : ∀ x, ow_u I (m + 1) i x (m + 1) k = if k = i then x else I (m + 1) k := fun x => by by_cases hh : k = i <;> simp [ow_u, hh]
          by_cases hk : k < 370
          · simp [hk]
          · have : k ≠ i := by omega
            simp [hk, ow_u, this]
        · intro j hj
          by_cases hh : j = i
          · subst hh; rw [ow_u_s]; decide
          · rw [ow_u_k _ _ _ _ hh]; exact h3 j (by omega)
  exact key 371 I 0 (by omega) (by omega) (fun j hj => by omega)
theorem B_bm {m : Nat} {a0 a1 a2 a3 a4 : Int32} {I : ow_I} (h : ¬ a0 = 0) : md_B (M_beginMarket m a0 a1 a2 a3 a4 I (m + 1)) ∧ M_beginMarket m a0 a1 a2 a3 a4 I (m + 1) 6 = 0 ∧ M_beginMarket m a0 a1 a2 a3 a4 I (m + 1) 7 = 0 := by
  have e0 : M_beginMarket m a0 a1 a2 a3 a4 I (m + 1) 0 = a0 := by rw [bm_cells]; simp
  have e6 : M_beginMarket m a0 a1 a2 a3 a4 I (m + 1) 6 = 0 := by rw [bm_cells]; simp
  have e7 : M_beginMarket m a0 a1 a2 a3 a4 I (m + 1) 7 = 0 := by rw [bm_cells]; simp
  have e8 : M_beginMarket m a0 a1 a2 a3 a4 I (m + 1) 8 = -1 := by rw [bm_cells]; simp
  have e10 : M_beginMarket m a0 a1 a2 a3 a4 I (m + 1) 10 = -1 := by rw [bm_cells]; simp
  have e12 : M_beginMarket m a0 a1 a2 a3 a4 I (m + 1) 12 = 0 := by rw [bm_cells]; simp
  refine ⟨?_, e6, e7⟩
  unfold md_B
  rw [e0, e6, e7, e8, e10, e12]
  have t : tn 0 = 0 := rfl
  refine ⟨h, ⟨by decide, by rw [t]; omega⟩, ⟨by decide, by rw [t]; omega⟩, rfl, rfl, rfl, ?_⟩
  intro i hi
  rw [t] at hi
  omega
theorem B_mkt {m : Nat} {I : ow_I} (h : (M_failsAtMarket m I).1 = false) : md_B ((M_failsAtMarket m I).2 (m + 1)) ∧ (M_failsAtMarket m I).2 (m + 1) 6 = 0 ∧ (M_failsAtMarket m I).2 (m + 1) 7 = 0 := by
  revert h
  simp only [M_failsAtMarket, lt_eq]
  (repeat' split) <;> first | (intro h; with_reducible exact tf_abs h) | skip
  · intro h
    rename_i g1 g2 g3 g4 g5
    simp (disch := omega) only [rr_next (show m + 1 ≠ m by omega)]
    refine B_bm ?_
    simp only [nu_oth (show 0 ≠ 4 by decide), nu_oth (show 0 ≠ 3 by decide), nu_oth (show 0 ≠ 2 by decide), nu_oth (show 0 ≠ 1 by decide)]
    intro z
    have := (nu_rng (Bool.eq_false_iff.2 g1)).1
    rw [z] at this
    exact absurd this (by decide)
  · intro h; exact absurd h (by simp [M_fails, lt_eq])
theorem B_of {A A' : Nat → Int32} (hB : md_B A) (h6 : 0 ≤ A' 6 ∧ tn (A' 6) ≤ 6) (hs : ∀ k, (k = 0 ∨ k = 7 ∨ k = 8 ∨ k = 10 ∨ k = 12 ∨ (16 ≤ k ∧ k < 36) ∨ (66 ≤ k ∧ k < 366)) → A' k = A k) : md_B A' := by
  obtain ⟨h0, h1, h2, h3, h4, h5, hq⟩ := hB
  refine ⟨by rw [hs 0 (by omega)]; exact h0, h6, by rw [hs 7 (by omega)]; exact h2, by rw [hs 8 (by omega)]; exact h3, by rw [hs 10 (by omega)]; exact h4, by rw [hs 12 (by omega), hs 7 (by omega)]; exact h5, ?_⟩
  intro i hi
  rw [hs 7 (by omega)] at hi
  rw [hs (16 + i) (by omega), hs (66 + 15 * i + 12) (by omega), hs (66 + 15 * i) (by omega)]
  exact hq i hi
theorem ab_6 {m : Nat} {p s f : Int32} {I : ow_I} (h6 : 0 ≤ I (m + 1) 6) (h6b : tn (I (m + 1) 6) < 6) : 0 ≤ M_addBuyer m p s f I (m + 1) 6 ∧ tn (M_addBuyer m p s f I (m + 1) 6) = tn (I (m + 1) 6) + 1 := by
  simp (disch := omega) only [M_addBuyer, lt_eq, M_put, u_one, if_neg, if_pos]
  exact tn_inc h6 (by omega)
theorem ab_o {m k : Nat} {p s f : Int32} {I : ow_I} (h6b : tn (I (m + 1) 6) < 6) (hk : k < 6 ∨ (6 < k ∧ k < 15) ∨ (15 < k ∧ k < 36) ∨ 66 ≤ k) : M_addBuyer m p s f I (m + 1) k = I (m + 1) k := by
  simp (disch := omega) only [M_addBuyer, lt_eq, M_put, u_one, if_neg, if_pos]
theorem B_byr {m : Nat} {I : ow_I} (hB : md_B (I (m + 1))) : md_B ((M_failsAtBuyer m I).2 (m + 1)) ∧ ((M_failsAtBuyer m I).1 = false → tn ((M_failsAtBuyer m I).2 (m + 1) 6) = tn (I (m + 1) 6) + 1) := by
  have f1 : ∀ p lo hi (J : ow_I), (M_failsAtNumber m p lo hi J).2 (m + 1) = J (m + 1) := fun p lo hi J => rr_num (by omega) (by omega)
  have f2 : ∀ (J : ow_I), (M_failsAtNext m J).2 (m + 1) = J (m + 1) := fun J => rr_next (by omega)
  have f3 : ∀ c (J : ow_I), (M_fails m c J).2 (m + 1) = J (m + 1) := fun c J => rr_fails (by omega)
  simp only [M_failsAtBuyer, lt_eq]
  (repeat' split) <;> simp only [f1, f2, f3] <;> first | with_reducible exact ⟨hB, fun h => tf2 h⟩ | skip
  · exact ⟨hB, fun h => absurd h (by simp [M_fails, lt_eq])⟩
  · rename_i h6 _ _ _
    have h6 := tn_ne hB.2.1.1 h6
    have h6b : ∀ J : ow_I, J (m + 1) = I (m + 1) → 0 ≤ J (m + 1) 6 ∧ tn (J (m + 1) 6) < 6 := fun J hJ => by rw [hJ]; have := hB.2.1; exact ⟨this.1, by omega⟩
    have hJ : (M_failsAtNumber m 2 (nI 1) (nI 999) (M_failsAtNumber m 1 (nI 0) (nI 4) (M_failsAtNumber m 0 (nI 0) (nI 9999) I).2).2).2 (m + 1) = I (m + 1) := by rw [f1, f1, f1]
    have t := h6b _ hJ
    have a6 := fun p s f => @ab_6 m p s f _ t.1 t.2
    rw [← hJ] at hB ⊢
    refine ⟨B_of hB ⟨(a6 _ _ _).1, by rw [(a6 _ _ _).2]; omega⟩ (fun k hk => ab_o t.2 (by omega)), fun _ => (a6 _ _ _).2⟩
  · exact ⟨hB, fun h => absurd h (by simp [M_fails, lt_eq])⟩
/-- a barrel that is being filled: the last one has c eels -/
def md_E (A : Nat → Int32) (b c : Nat) : Prop := ¬ A 0 = 0 ∧ (0 ≤ A 6 ∧ tn (A 6) ≤ 6) ∧ (A 7 = nI (b + 1) ∧ b < 20) ∧ A 8 = -1 ∧ A 10 = -1 ∧ A 12 = A 7 ∧ (∀ i, i < b + 1 → A (16 + i) = nI i ∧ A (66 + 15 * i + 12) = 0) ∧ (∀ i, i < b → 0 ≤ A (66 + 15 * i) ∧ 1 ≤ tn (A (66 + 15 * i)) ∧ tn (A (66 + 15 * i)) ≤ 9) ∧ A (66 + 15 * b) = nI c
theorem E_B {A : Nat → Int32} {b c : Nat} (h : md_E A b c) (h1 : 1 ≤ c) (h9 : c ≤ 9) : md_B A := by
  obtain ⟨g0, g1, g2, g3, g4, g5, g6, g7, g8⟩ := h
  have e : tn (A 7) = b + 1 := by rw [g2.1, tn_nI (by omega)]
  refine ⟨g0, g1, ⟨by rw [g2.1]; exact nI_ge0 (by omega), by omega⟩, g3, g4, g5, ?_⟩
  intro i hi
  rw [e] at hi
  refine ⟨(g6 i hi).1, (g6 i hi).2, ?_⟩
  by_cases z : i = b
  · rw [z, g8, tn_nI (by omega)]; exact ⟨nI_ge0 (by omega), h1, h9⟩
  · exact g7 i (by omega)
theorem E_new {m : Nat} {r : Int32} {I : ow_I} (hB : md_B (I (m + 1))) (h7 : tn (I (m + 1) 7) < 20) : md_E ((M_newBarrel m r I).2 (m + 1)) (tn (I (m + 1) 7)) 0 := by
  obtain ⟨h0, h1, h2, h3, h4, h5, hq⟩ := hB
  have e12 : tn (I (m + 1) 12) = tn (I (m + 1) 7) := by rw [h5]
  have e7 : I (m + 1) 7 + nI 1 = nI (tn (I (m + 1) 7) + 1) := by rw [← nI_add, nI_tn h2.1]
  unfold md_E
  simp (disch := omega) only [M_newBarrel, M_enqueue, lt_eq, u_one, M_putBarrel, if_neg, if_pos]
  refine ⟨h0, h1, ⟨e7, h7⟩, h3, h4, by rw [h5], ?_, ?_, trivial⟩
  · intro i hi
    by_cases c : i = tn (I (m + 1) 7)
    · refine ⟨?_, ?_⟩
      · simp (disch := omega) only [if_neg, if_pos]; rw [c]
      · simp (disch := omega) only [if_pos]; decide
    · simp (disch := omega) only [if_neg]
      exact ⟨(hq i (by omega)).1, (hq i (by omega)).2.1⟩
  · intro i hi
    simp (disch := omega) only [if_neg]
    exact (hq i (by omega)).2.2
theorem E_add {m b c : Nat} {x : Int32} {I : ow_I} (h : md_E (I (m + 1)) b c) (hc : c < 9) : md_E (M_addEel m b x I (m + 1)) b (c + 1) := by
  obtain ⟨g0, g1, g2, g3, g4, g5, g6, g7, g8⟩ := h
  have e : tn (M_ofBarrel m b 0 I) = c := by show tn (I (m + 1) (66 + 15 * b)) = c; rw [g8, tn_nI (by omega)]
  unfold md_E
  simp (disch := omega) only [M_addEel, lt_eq, u_one, M_putBarrel, if_neg, if_pos, e]
  refine ⟨g0, g1, g2, g3, g4, g5, ?_, ?_, trivial⟩
  · intro i hi
    simp (disch := omega) only [if_neg]
    exact g6 i hi
  · intro i hi
    simp (disch := omega) only [if_neg]
    exact g7 i hi
