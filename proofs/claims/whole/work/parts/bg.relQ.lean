/-! more questions -/
section RRQ2
variable {x m B : Nat} {I J : ow_I}
theorem st18 (h : RR x m B I J) : st (x + 1) m B I (ow_u J m 18 (nI 0)) := (RR_18 (y := nI 0) h).2.1
theorem q_totalLength {b : Int32} (h : RR x m B I J) : an x m B [3] (A_totalLength x b I).1 (A_totalLength x b I).2 (M_totalLength m b J).1 I (M_totalLength m b J).2 := by
  rcases bar_or (b := b) h with ⟨-, q2, q3, -, q5, q6⟩ | ⟨-, q2, q3⟩
  · simp only [A_totalLength, M_totalLength, lt_eq, q2, q3, if_true]
    rw [if_neg (by decide)]
    refine ⟨RR_18 h, ow_u_s _ _ _ _, fun _ => ?_⟩
    have hs := st18 h
    have e7 : ow_u J m 18 (nI 0) (m + 1) = J (m + 1) := e18 (by omega)
    rw [tot_eq (hs.2.1.2.2.2.2.2.2.2.2.2 (tn b) (by rw [e7]; exact q6)).2.2]
    exact (hs.1.2.2.2.2.2.2 (tn b) (by rw [e7]; exact q6)).1.2.1
  · simp only [A_totalLength, M_totalLength, lt_eq, q2, q3, if_true]
    rw [if_neg (by decide)]
    exact ⟨RR_18 (RR_18 h), ow_u_s _ _ _ _, fun z => absurd z (by decide)⟩
theorem q_greatestLength {b : Int32} (h : RR x m B I J) : an x m B [3] (A_greatestLength x b I).1 (A_greatestLength x b I).2 (M_greatestLength m b J).1 I (M_greatestLength m b J).2 := by
  rcases bar_or (b := b) h with ⟨-, q2, q3, -, q5, q6⟩ | ⟨-, q2, q3⟩
  · simp only [A_greatestLength, M_greatestLength, lt_eq, q2, q3, if_true]
    rw [if_neg (by decide)]
    refine ⟨RR_18 h, ow_u_s _ _ _ _, fun _ => ?_⟩
    have hs := st18 h
    have e7 : ow_u J m 18 (nI 0) (m + 1) = J (m + 1) := e18 (by omega)
    rw [gre_eq (hs.2.1.2.2.2.2.2.2.2.2.2 (tn b) (by rw [e7]; exact q6)).2.2]
    exact (hs.1.2.2.2.2.2.2 (tn b) (by rw [e7]; exact q6)).1.2.2.1
  · simp only [A_greatestLength, M_greatestLength, lt_eq, q2, q3, if_true]
    rw [if_neg (by decide)]
    exact ⟨RR_18 (RR_18 h), ow_u_s _ _ _ _, fun z => absurd z (by decide)⟩
/-- a sum of lengths is small, and not 0 -/
theorem sum_N {g : Nat → Int32} : ∀ n, n ≤ 9 → (∀ e, e < n → ∃ y : Nat, g e = nI y ∧ 10 ≤ y ∧ y ≤ 150) → ∃ t : Nat, sumL g n = nI t ∧ 10 * n ≤ t ∧ t ≤ 150 * n := by
  intro n
  induction n with
  | zero => intro _ _; exact ⟨0, rfl, by decide, by decide⟩
  | succ n ih =>
    intro h9 h
    obtain ⟨t, e, t1, t2⟩ := ih (by omega) (fun q hq => h q (by omega))
    obtain ⟨y, ey, y1, y2⟩ := h n (by omega)
    refine ⟨t + y, ?_, by omega, by omega⟩
    show sumL g n + g n = _
    rw [e, ey, nI_add]
theorem tot_N (h : RR x m B I J) {k : Nat} (hk : k < tn (J (m + 1) 7)) : ∃ t : Nat, M_totalOf m k J = nI t ∧ 10 ≤ t ∧ t ≤ 1350 := by
  have hv := h.2.1.2.1
  have he := hv.2.2.2.2.2.2.2.2.2 k hk
  have hi := h.2.1.2.2.2.2.1 k hk
  obtain ⟨t, et, t1, t2⟩ := @sum_N (fun e => J (m + 1) (66 + 15 * k + (1 + e))) (tn (J (m + 1) (66 + 15 * k))) he.2.2 (fun e hq => hi.2.2.2 e hq)
  exact ⟨t, by rw [tot_eq he.2.2]; exact et, by omega, by omega⟩
theorem tot_0 (h : RR x m B I J) {k : Nat} (hk : k < tn (J (m + 1) 7)) : ¬ M_totalOf m k J = 0 := by
  obtain ⟨t, e, t1, t2⟩ := tot_N h hk
  rw [e]
  intro z
  have := (nI_z (by omega)).mp z
  omega
theorem q_pricePerLength {b : Int32} (h : RR x m B I J) : an x m B [3] (A_pricePerLength x b I).1 (A_pricePerLength x b I).2 (M_pricePerLength m b J).1 I (M_pricePerLength m b J).2 := by
  rcases bar_or (b := b) h with ⟨-, q2, q3, -, q5, q6⟩ | ⟨-, q2, q3⟩
  · have hs := RR_18 (y := nI 0) h
    have e7 : ow_u J m 18 (nI 0) (m + 1) = J (m + 1) := e18 (by omega)
    have hb := hs.2.1.1.2.2.2.2.2.2 (tn b) (by rw [e7]; exact q6)
    have h7 : I (x + 1 + 11 + 2 * tn b) 7 = M_ofBarrel m (tn b) 12 (ow_u J m 18 (nI 0)) := hb.2.2.2.2.1
    have h9 : I (x + 1 + 11 + 2 * tn b) 9 = M_ofBarrel m (tn b) 14 (ow_u J m 18 (nI 0)) := hb.2.2.2.2.2.2
    have h2 : I (x + 1 + 11 + 2 * tn b) 2 = M_totalOf m (tn b) (ow_u J m 18 (nI 0)) := by
      rw [tot_eq (hs.2.1.2.1.2.2.2.2.2.2.2.2.2 (tn b) (by rw [e7]; exact q6)).2.2]
      exact hb.1.2.1
    have hz := tot_0 hs (k := tn b) (by rw [e7]; exact q6)
    simp only [A_pricePerLength, M_pricePerLength, lt_eq, q2, q3, if_true, h7, h9, h2]
    rw [if_neg (show ¬ false = true by decide)]
    by_cases c : M_ofBarrel m (tn b) 12 (ow_u J m 18 (nI 0)) = nI 2
    · rw [if_pos c, if_pos c, if_neg hz]
      exact ⟨RR_18 h, ow_u_s _ _ _ _, fun _ => rfl⟩
    · rw [if_neg c, if_neg c]
      exact ⟨RR_18 h, ow_u_s _ _ _ _, fun _ => rfl⟩
  · simp only [A_pricePerLength, M_pricePerLength, lt_eq, q2, q3, if_true]
    rw [if_neg (by decide)]
    exact ⟨RR_18 (RR_18 h), ow_u_s _ _ _ _, fun z => absurd z (by decide)⟩
theorem q_length {b e : Int32} (h : RR x m B I J) : an x m B [3] (A_length x b e I).1 (A_length x b e I).2 (M_length m b e J).1 I (M_length m b e J).2 := by
  rcases bar_or (b := b) h with ⟨-, q2, q3, -, q5, q6⟩ | ⟨-, q2, q3⟩
  · have e7 : ow_u J m 18 (nI 0) (m + 1) = J (m + 1) := e18 (by omega)
    have hb := h.2.1.1.2.2.2.2.2.2 (tn b) q6
    have he := h.2.1.2.1.2.2.2.2.2.2.2.2.2 (tn b) q6
    have e1 : I (x + 1 + 11 + 2 * tn b) 1 = J (m + 1) (66 + 15 * tn b) := hb.1.1
    have e0 : M_ofBarrel m (tn b) 0 (ow_u J m 18 (nI 0)) = J (m + 1) (66 + 15 * tn b) := by
      unfold M_ofBarrel
      rw [e7]
      rfl
    have en : J (m + 1) (66 + 15 * tn b) - nI 1 = nI (tn (J (m + 1) (66 + 15 * tn b)) - 1) := by rw [← nI_sb (by omega), nI_tn he.1]
    simp only [A_length, M_length, lt_eq, q2, q3, if_true, e1, e0, en]
    rw [if_neg (show ¬ false = true by decide)]
    by_cases c : 0 ≤ e ∧ e < J (m + 1) (66 + 15 * tn b)
    · have c2 := (lt_tn c.2 c.1).2
      have hin : M_in e (nI 0) (nI (tn (J (m + 1) (66 + 15 * tn b)) - 1)) (ow_u J m 18 (nI 0)) = true := by
        unfold M_in
        rw [if_neg (show ¬ e < nI 0 from i_ge c.1), if_neg]
        intro z
        rw [← nI_tn c.1] at z
        have := (nI_ltI (by omega) (by omega)).mp z
        omega
      rw [hin, if_pos rfl, if_neg (i_ge c.1), if_pos c.2]
      refine ⟨RR_18 h, ow_u_s _ _ _ _, fun _ => ?_⟩
      show _ = ow_u J m 18 (nI 0) (m + 1) (66 + 15 * tn b + (1 + tn e))
      rw [e7]
      exact hb.2.1 (tn e) c2
    · have hin : M_in e (nI 0) (nI (tn (J (m + 1) (66 + 15 * tn b)) - 1)) (ow_u J m 18 (nI 0)) = false := by
        unfold M_in
        by_cases d : e < nI 0
        · rw [if_pos d]
        · rw [if_neg d, if_pos]
          have d0 : 0 ≤ e := i_nlt d
          have d1 : J (m + 1) (66 + 15 * tn b) ≤ e := i_nlt (fun z => c ⟨d0, z⟩)
          rw [← nI_tn he.1, ← nI_tn d0] at d1
          have := (nI_leI (by omega) (tn_lt e)).mp d1
          rw [← nI_tn d0]
          exact nI_lt (by omega) (tn_lt e)
      rw [hin, if_neg (show ¬ false = true by decide)]
      have hA : (if e < 0 then ((3, 0) : Nat × Int32) else if e < J (m + 1) (66 + 15 * tn b) then (0, I (x + 1 + 11 + 2 * tn b + 1) (tn e)) else (3, 0)) = (3, 0) := by
        by_cases d : e < 0
        · rw [if_pos d]
        · rw [if_neg d, if_neg (fun z => c ⟨i_nlt d, z⟩)]
      rw [hA]
      exact ⟨RR_18 (RR_18 h), ow_u_s _ _ _ _, fun z => absurd z (by decide)⟩
  · simp only [A_length, M_length, lt_eq, q2, q3, if_true]
    rw [if_neg (by decide)]
    exact ⟨RR_18 (RR_18 h), ow_u_s _ _ _ _, fun z => absurd z (by decide)⟩
theorem q_whyNotNod {b : Int32} (h : RR x m B I J) : an x m B [3] (A_whyNotNod x b I).1 (A_whyNotNod x b I).2 (M_whyNotNod m b J).1 I (M_whyNotNod m b J).2 := by
  rcases buy_or (b := b) h with ⟨q2, q3, q5, q6⟩ | ⟨q2, q3⟩
  · simp only [A_whyNotNod, M_whyNotNod, lt_eq, q2, q3, if_true]
    rw [if_neg (by decide)]
    refine ⟨RR_18 h, ow_u_s _ _ _ _, fun _ => ?_⟩
    have hs := st18 h
    have e7 : ow_u J m 18 (nI 0) (m + 1) = J (m + 1) := e18 (by omega)
    have := ref_eq (b := tn b) hs.1 hs.2.1 hs.2.2 (by rw [e7]; exact q6)
    rw [nI_tn q5] at this
    exact this
  · simp only [A_whyNotNod, M_whyNotNod, lt_eq, q2, q3, if_true]
    rw [if_neg (by decide)]
    exact ⟨RR_18 (RR_18 h), ow_u_s _ _ _ _, fun z => absurd z (by decide)⟩
theorem q_costOf {p : Int32} (h : RR x m B I J) : an x m B [1] (A_costOf x p I).1 (A_costOf x p I).2 (M_costOf m p J).1 I (M_costOf m p J).2 := by
  have hs := st18 h
  rcases rng_or (v := p) (lo := nI 0) (hi := nI 9999) (I := I) (J := ow_u J m 18 (nI 0)) with ⟨q1, q2, -⟩ | ⟨q1, q2⟩
  · simp only [A_costOf, M_costOf, lt_eq, q1, q2, if_true]
    exact ⟨RR_18 h, ow_u_s _ _ _ _, fun _ => fee_eq hs.1⟩
  · simp only [A_costOf, M_costOf, lt_eq, q1, q2]
    rw [if_neg (by decide), if_neg (by decide)]
    exact ⟨RR_18 (RR_18 h), ow_u_s _ _ _ _, fun z => absurd z (by decide)⟩
theorem q_worth {y b : Int32} (h : RR x m B I J) : an x m B [3] (A_worth x y b I).1 (A_worth x y b I).2 (M_worth m y b J).1 I (M_worth m y b J).2 := by
  have h1 := RR_18 (y := nI 0) h
  have e7 : ow_u J m 18 (nI 0) (m + 1) = J (m + 1) := e18 (by omega)
  rcases buy_or (b := y) h with ⟨q2, q3, q5, q6⟩ | ⟨q2, q3⟩
  · rcases bar_or (b := b) h1 with ⟨-, p2, p3, -, p5, p6⟩ | ⟨-, p2, p3⟩
    · simp only [A_worth, M_worth, lt_eq, buyAt_eq, q2, q3, p2, p3, if_true]
      rw [if_neg (show ¬ false = true by decide), if_neg (show ¬ false = true by decide)]
      have h2 := RR_18 (y := nI 0) h1
      have e8 : ow_u (ow_u J m 18 (nI 0)) m 18 (nI 0) (m + 1) = J (m + 1) := by rw [e18 (by omega), e7]
      refine ⟨h2, ow_u_s _ _ _ _, fun _ => ?_⟩
      exact val_eq h2.2.1.1 h2.2.1.2.1 (by rw [e8]; exact q6) (by rw [e8]; rw [e7] at p6; exact p6)
    · simp only [A_worth, M_worth, lt_eq, buyAt_eq, q2, q3, p2, p3, if_true]
      rw [if_neg (show ¬ false = true by decide), if_neg (show ¬ (3 : Nat) = 0 by decide)]
      exact ⟨RR_18 (RR_18 h1), ow_u_s _ _ _ _, fun z => absurd z (by decide)⟩
  · simp only [A_worth, M_worth, lt_eq, buyAt_eq, q2, q3, if_true]
    rw [if_neg (by decide)]
    exact ⟨RR_18 (RR_18 h), ow_u_s _ _ _ _, fun z => absurd z (by decide)⟩
theorem q_keenestBuyer {b : Int32} (h : RR x m B I J) : an x m B [3] (A_keenestBuyer x b I).1 (A_keenestBuyer x b I).2 (M_keenestBuyer m b J).1 I (M_keenestBuyer m b J).2 := by
  rcases bar_or (b := b) h with ⟨-, q2, q3, -, q5, q6⟩ | ⟨-, q2, q3⟩
  · have hs := st18 h
    have e7 : ow_u J m 18 (nI 0) (m + 1) = J (m + 1) := e18 (by omega)
    simp only [A_keenestBuyer, M_keenestBuyer, lt_eq, q2, q3, if_true]
    rw [if_neg (show ¬ false = true by decide)]
    have hsr := hs
    generalize hJ : ow_u J m 18 (nI 0) = J1 at hs ⊢
    have n6 : I (x + 1) 8 = J1 (m + 1) 6 := hs.1.2.2.1.1
    have hv := hs.2.1
    have L : ∀ (n j i : Nat), j < tn (J1 (m + 1) 6) → i ≤ tn (J1 (m + 1) 6) → tn (J1 (m + 1) 6) - i < n → (M_keenestBuyer_L14 m b n J1 j i).2 = J1 ∧ K_keenest_L4 (x + 1) (x + 1 + 11 + 2 * tn b) n I j i = (M_keenestBuyer_L14 m b n J1 j i).1 := by
      intro n
      induction n with
      | zero => intro j i _ _ h; omega
      | succ n ih =>
        intro j i hj hi hn
        unfold M_keenestBuyer_L14 K_keenest_L4
        rw [n6]
        by_cases c : tn (J1 (m + 1) 6) ≤ i
        · rw [if_pos c, if_pos c]
          exact ⟨rfl, rfl⟩
        · have hb7 : tn b < tn (J1 (m + 1) 7) := by rw [← hJ, e7]; exact q6
          rw [if_neg c, if_neg c, val_eq hs.1 hv (show i < tn (J1 (m + 1) 6) by omega) hb7, val_eq hs.1 hv hj hb7]
          by_cases d : Op.cmpValue (FP.dcmp (M_worthTo m i (tn b) J1) (M_worthTo m j (tn b) J1)) .l ≤ 0
          · rw [if_pos d, if_pos d]
            exact ih j (i + 1) hj (by omega) (by omega)
          · rw [if_neg d, if_neg d]
            exact ih i (i + 1) (by omega) (by omega) (by omega)
    have h6 := hv.2.1
    obtain ⟨g1, g2⟩ := L 7 0 1 (by omega) (by omega) (by omega)
    rw [g1, ← hJ]
    rw [← hJ] at g2
    exact ⟨RR_18 h, ow_u_s _ _ _ _, fun _ => g2⟩
  · simp only [A_keenestBuyer, M_keenestBuyer, lt_eq, q2, q3, if_true]
    rw [if_neg (by decide)]
    exact ⟨RR_18 (RR_18 h), ow_u_s _ _ _ _, fun z => absurd z (by decide)⟩
theorem q_coinError (h : RR x m B I J) : A_coinError x I = (M_coinError m J).1 ∧ RR x m B I (M_coinError m J).2 := by
  have h1 := RR_18 (y := nI 0) h
  have hs := h1.2.1
  simp only [A_coinError, M_coinError, lt_eq]
  generalize ow_u J m 18 (nI 0) = J1 at h1 hs ⊢
  have hv := hs.2.1
  have h6 := hv.2.1
  have n6 : I (x + 1) 8 = J1 (m + 1) 6 := hs.1.2.2.1.1
  have hy := hs.1.2.2.2.2.1
  have L : ∀ (n i : Nat) (c d : Int32), i ≤ tn (J1 (m + 1) 6) → tn (J1 (m + 1) 6) - i < n → (M_coinError_L23 m n J1 (d + c) i).2 = J1 ∧ J1 (m + 1) 15 - (K_coinsInPurses_L4 (x + 1) n I c i) - d = (M_coinError_L23 m n J1 (d + c) i).1 := by
    intro n
    induction n with
    | zero => intro i _ _ _ h; omega
    | succ n ih =>
      intro i c d hi hn
      unfold M_coinError_L23 K_coinsInPurses_L4
      rw [n6]
      by_cases g : tn (J1 (m + 1) 6) ≤ i
      · rw [if_pos g, if_pos g]
        refine ⟨rfl, ?_⟩
        rw [Int32.sub_sub, Int32.add_comm]
      · rw [if_neg g, if_neg g]
        have e : I (x + 1 + 5 + i) 0 = M_of m i 0 J1 := hy i (by omega) 0 (by decide)
        rw [e, Int32.add_assoc]
        exact ih (i + 1) _ _ (by omega) (by omega)
  have g := L 7 0 (nI 0) (J1 (m + 1) 13 + J1 (m + 1) 14) (by omega) (by omega)
  rw [show J1 (m + 1) 13 + J1 (m + 1) 14 + nI 0 = J1 (m + 1) 13 + J1 (m + 1) 14 from Int32.add_zero _] at g
  rw [g.1, ← g.2]
  refine ⟨?_, h1⟩
  have s4 : I (x + 1) 4 = J1 (m + 1) 13 := hs.1.2.1.2.2.2.1
  have s5 : I (x + 1) 5 = J1 (m + 1) 14 := hs.1.2.1.2.2.2.2.1
  have s6 : I (x + 1) 6 = J1 (m + 1) 15 := hs.1.2.1.2.2.2.2.2
  rw [s4, s5, s6, Int32.sub_sub]
  rfl
theorem q_soldShare (h : RR x m B I J) : A_soldShare x I = (M_soldShare m J).1 ∧ RR x m B I (M_soldShare m J).2 := by
  have h1 := RR_18 (y := nI 0) h
  have hs := h1.2.1
  simp only [A_soldShare, M_soldShare, lt_eq]
  generalize ow_u J m 18 (nI 0) = J1 at h1 hs ⊢
  have hv := hs.2.1
  have h7 := hv.2.2.1
  have n7 : I (x + 1) 10 = J1 (m + 1) 7 := hs.1.2.2.1.2.1
  have hB := hs.1.2.2.2.2.2.2
  have L : ∀ (n i : Nat), i ≤ tn (J1 (m + 1) 7) → tn (J1 (m + 1) 7) - i < n → A_soldShare_L4 x n I (sdN (J1 (m + 1)) i) i = if J1 (m + 1) 7 = 0 then FP.fconst0 else FP.fdiv (FP.i2f (nI (sdN (J1 (m + 1)) (tn (J1 (m + 1) 7))))) (FP.i2f (J1 (m + 1) 7)) := by
    intro n
    induction n with
    | zero => intro i _ h; omega
    | succ n ih =>
      intro i hi hn
      unfold A_soldShare_L4
      rw [n7]
      by_cases g : tn (J1 (m + 1) 7) ≤ i
      · rw [if_pos g, show i = tn (J1 (m + 1) 7) by omega]
      · rw [if_neg g]
        have e : I (x + 1 + 11 + 2 * i) 7 = J1 (m + 1) (66 + 15 * i + 12) := (hB i (by omega)).2.2.2.2.1
        have h2 := ih (i + 1) (by omega) (by omega)
        rw [e, ← h2]
        show _ = A_soldShare_L4 x n I (if J1 (m + 1) (66 + 15 * i + 12) = nI 2 then sdN (J1 (m + 1)) i + 1 else sdN (J1 (m + 1)) i) (i + 1)
        by_cases d : J1 (m + 1) (66 + 15 * i + 12) = nI 2
        · rw [if_pos d, if_pos d]
        · rw [if_neg d, if_neg d]
  have g := L 21 0 (by omega) (by omega)
  rw [show A_soldShare_L4 x 21 I 0 0 = _ from g, cnt_N hv]
  by_cases c : J1 (m + 1) 7 = 0
  · rw [if_pos c, if_pos c]
    exact ⟨rfl, h1⟩
  · rw [if_neg c, if_neg c]
    exact ⟨rfl, h1⟩
theorem q_meanLength (h : RR x m B I J) : A_meanLength x I = (M_meanLength m J).1 ∧ RR x m B I (M_meanLength m J).2 := by
  have h1 := RR_18 (y := nI 0) h
  have hs := h1.2.1
  simp only [A_meanLength, M_meanLength, lt_eq]
  generalize ow_u J m 18 (nI 0) = J1 at h1 hs ⊢
  have hv := hs.2.1
  have h7 := hv.2.2.1
  have n7 : I (x + 1) 10 = J1 (m + 1) 7 := hs.1.2.2.1.2.1
  have hB := hs.1.2.2.2.2.2.2
  have L : ∀ (n i : Nat) (l e : Int32), i ≤ tn (J1 (m + 1) 7) → tn (J1 (m + 1) 7) - i < n → (M_meanLength_L11 m n J1 e l i).2 = J1 ∧ A_meanLength_L6 x n I l e i = (M_meanLength_L11 m n J1 e l i).1 := by
    intro n
    induction n with
    | zero => intro i _ _ _ h; omega
    | succ n ih =>
      intro i l e hi hn
      unfold A_meanLength_L6 M_meanLength_L11
      rw [n7]
      by_cases g : tn (J1 (m + 1) 7) ≤ i
      · rw [if_pos g, if_pos g]
        by_cases d : e = 0
        · rw [if_pos d, if_pos d]
          exact ⟨rfl, rfl⟩
        · rw [if_neg d, if_neg d]
          exact ⟨rfl, rfl⟩
      · rw [if_neg g, if_neg g]
        have e1 : I (x + 1 + 11 + 2 * i) 1 = M_ofBarrel m i 0 J1 := (hB i (by omega)).1.1
        have e2 : I (x + 1 + 11 + 2 * i) 2 = M_totalOf m i J1 := by
          rw [tot_eq (hv.2.2.2.2.2.2.2.2.2 i (by omega)).2.2]
          exact (hB i (by omega)).1.2.1
        rw [e1, e2]
        exact ih (i + 1) _ _ (by omega) (by omega)
  have g := L 21 0 (nI 0) (nI 0) (by omega) (by omega)
  rw [g.1, g.2]
  exact ⟨rfl, h1⟩
end RRQ2
