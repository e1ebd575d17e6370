/-! BARRELS READ; A SETUP LOADED -/
section BRL
variable {p m a c : Nat} {I J I' J' : ow_I}
/-- what a barrel's reading gives: n lengths in the command c -/
def bl2 (c m n : Nat) (A C : ow_I) : Prop := A c 4 = nI n ∧ C m 13 = nI (n + 1) ∧ 1 ≤ n ∧ n ≤ 9 ∧ ∀ j, j < n → ∃ l : Nat, A (c + 1) j = nI l ∧ C (m + 4) (1 + j) = nI l ∧ 10 ≤ l ∧ l ≤ 150
theorem pe_row (h : pe p m I J) (e : I' p = I p) (e2 : J' m = J m) : pe p m I' J' := by
  unfold pe
  rw [e, e2]
  exact h
theorem brL (hc : c ≠ p ∧ c ≠ p + 1 ∧ c ≠ p + 2 ∧ c + 1 ≠ p) : ∀ (k i : Nat) (I J : ow_I), i ≤ 9 → 9 - i < k → tk (p + 1) m I J → J m 13 = nI (i + 1) → (1 ≤ i → I c 4 = nI i) → (∀ j, j < i → ∃ l : Nat, I (c + 1) j = nI l ∧ J (m + 4) (1 + j) = nI l ∧ 10 ≤ l ∧ l ≤ 150) →
    pr p m (fun A C => tk (p + 1) m A C ∧ (∃ n, bl2 c m n A C) ∧ A c 1 = I c 1 ∧ C (m + 4) 0 = J (m + 4) 0) (Q_readBarrel_L23 p c k I i) (M_failsAtBarrel_L23 m k J) := by
  intro k
  induction k with
  | zero => intro i I J h1 h2; omega
  | succ k ih =>
    intro i I J h1 h2 ht h13 h4 hl
    have t13 : tn (J m 13) = i + 1 := by rw [h13, tn_nI (by omega)]
    obtain ⟨k1, k2, -⟩ := tk_k ht
    -- one more length, or too many
    have step : pr p m (fun A C => tk (p + 1) m A C ∧ (∃ n, bl2 c m n A C) ∧ A c 1 = I c 1 ∧ C (m + 4) 0 = J (m + 4) 0)
        (lt (Q_takeNumber p (nI 10) (nI 150) I) (fun (r8 : Bool × ow_I) => if r8.1 then lt (ow_u r8.2 (c + 1) i (r8.2 p 4)) (fun (I9 : ow_I) => lt (ow_u I9 c 4 (nI (i + 1))) (fun (I10 : ow_I) => Q_readBarrel_L23 p c k I10 (i + 1))) else (false, r8.2)))
        (lt (M_failsAtThis m (i + 1) (nI 10) (nI 150) J) (fun (r8 : Bool × ow_I) => if r8.1 then (true, r8.2) else if tn (J m 13) ≤ 9 then lt (ow_u r8.2 m 13 (r8.2 m 13 + (nI 1))) (fun (I9 : ow_I) => lt (M_readToken m I9) (fun (I10 : ow_I) => M_failsAtBarrel_L23 m k I10 )) else lt (M_fails m (nI 3) r8.2) (fun (r11 : Bool × ow_I) => (r11.1, r11.2)))) ∨ i = 9 := by
      by_cases d : i = 9
      · exact Or.inr d
      · left
        rcases num_eq (q := i + 1) (lo := 10) (hi := 150) ht (by decide) (by decide) with ⟨a1, a2, a3, a4, -, -, a9, w, a5, a6, a7, a8⟩ | ⟨a1, a2, a3, -⟩
        · have f1 : ∀ b, b ≠ p → b ≠ p + 1 → (Q_takeNumber p (nI 10) (nI 150) I).2 b = I b := fun b h1 h2 => rr_tn h1 h2
          have f2 : ∀ q, q ≠ i + 1 → (M_failsAtThis m (i + 1) (nI 10) (nI 150) J).2 (m + 4) q = J (m + 4) q := fun q hq => th_oth hq
          have f3 : (M_failsAtThis m (i + 1) (nI 10) (nI 150) J).2 m 13 = J m 13 := fr_this (by omega)
          rw [prod_eq a1, prod_eq a2, lt_p true, lt_p false]
          dsimp only
          rw [if_pos (show true = true from rfl), if_neg (show ¬ false = true by decide), if_pos (show tn (J m 13) ≤ 9 by omega)]
          simp only [lt_eq]
          have ta : tk (p + 1) m (ow_u I p 4 (I (p + 1) 5)) (ow_u (M_failsAtThis m (i + 1) (nI 10) (nI 150) J).2 m 13 ((M_failsAtThis m (i + 1) (nI 10) (nI 150) J).2 m 13 + nI 1)) :=
            tk_of a4 (fun j _ _ => by rw [rr_u (by omega)]) (rr_u (by omega)) (fun j hj => by rw [u_one, if_neg (by omega)]) (rr_u (by omega))
          have tb := tok_next ta
          rw [← a9] at tb
          generalize (Q_takeNumber p (nI 10) (nI 150) I).2 = R at a3 a5 a9 f1 tb ⊢
          generalize (M_failsAtThis m (i + 1) (nI 10) (nI 150) J).2 = S at a3 a4 a6 f2 f3 ta tb ⊢
          have g13 : M_readToken m (ow_u S m 13 (S m 13 + nI 1)) m 13 = nI (i + 1 + 1) := by rw [fr_readToken (by omega), ow_u_s, f3, h13, nI_add]
          have g4 : ∀ q, M_readToken m (ow_u S m 13 (S m 13 + nI 1)) (m + 4) q = S (m + 4) q := fun q => by rw [rr_readToken (by omega), rr_u (by omega)]
          generalize M_readToken m (ow_u S m 13 (S m 13 + nI 1)) = S2 at tb g13 g4 ⊢
          have tc : tk (p + 1) m (ow_u (ow_u R (c + 1) i (R p 4)) c 4 (nI (i + 1))) S2 := tk_row tb (by rw [rr_u (by omega), rr_u (by omega)]) (by rw [rr_u (by omega), rr_u (by omega)]) rfl rfl
          have q := ih (i + 1) _ S2 (by omega) (by omega) tc g13 (fun _ => ow_u_s _ _ _ _) (fun j hj => by
            rw [rr_u (by omega), u_one]
            by_cases e : j = i
            · rw [if_pos e, a5, g4, e, show 1 + i = i + 1 by omega, a6]
              exact ⟨w, rfl, rfl, a7, a8⟩
            · rw [if_neg e, f1 _ (by omega) (by omega), g4, f2 _ (by omega)]
              exact hl j (by omega))
          refine pr_m q (fun A C _ _ h => ⟨h.1, h.2.1, ?_, ?_⟩)
          · rw [h.2.2.1, u_one, if_neg (by decide), rr_u (by omega), f1 _ (by omega) (by omega)]
          · rw [h.2.2.2, g4, f2 0 (by omega)]
        · rw [prod_eq a1, prod_eq a2, lt_p false, lt_p true]
          dsimp only
          rw [if_neg (show ¬ false = true by decide), if_pos (show true = true from rfl)]
          exact pr_f a3
    have f13 : (M_failsAtThis m (i + 1) (nI 10) (nI 150) J).2 m 13 = J m 13 := fr_this (by omega)
    unfold Q_readBarrel_L23 M_failsAtBarrel_L23
    rw [if_neg (show ¬ 9 < i by omega), t13]
    by_cases d : i = 0
    · rw [if_pos d, if_neg (show ¬ i = 9 by omega), if_pos (show i + 1 = 1 by omega)]
      rcases step with q | q
      · rw [t13] at q
        simp only [lt_eq, f13, t13] at q ⊢
        exact q
      · omega
    · rw [if_neg d, if_neg (show ¬ i + 1 = 1 by omega), ← k1]
      by_cases e : I (p + 1) 2 = nI 2
      · rw [if_pos e, if_pos e]
        by_cases d9 : i = 9
        · rw [if_pos d9]
          rcases num_eq (q := i + 1) (lo := 10) (hi := 150) ht (by decide) (by decide) with ⟨-, a2, -, a4, a5, -⟩ | ⟨-, -, -, a4⟩
          · rw [if_pos a5]
            simp only [lt_eq]
            rw [pm_eta, a2, if_neg (show ¬ false = true by decide), f13, if_neg (show ¬ i + 1 ≤ 9 by omega), pm_eta]
            exact fail_st a4
          · obtain ⟨b1, b2⟩ := a4 e
            obtain ⟨f1, f2, f3⟩ := fail_er (c := nI 2) ht
            rw [if_neg (by rw [b1]; decide), b2]
            simp only [lt_eq]
            rw [pm_eta, f2, if_pos (show true = true from rfl), prod_eq f1]
            exact pr_f f3
        · rw [if_neg d9]
          rcases step with q | q
          · rw [t13] at q
            simp only [lt_eq, f13, t13] at q ⊢
            exact q
          · exact absurd q d9
      · rw [if_neg e, if_neg e]
        exact pr_t ⟨ht, ⟨i, h4 (by omega), h13, by omega, h1, hl⟩, rfl, rfl⟩
theorem brl_eq (hc : c ≠ p ∧ c ≠ p + 1 ∧ c ≠ p + 2 ∧ c + 1 ≠ p) (ht : tk (p + 1) m I (M_readToken m J)) :
    pr p m (fun A C => tk (p + 1) m A C ∧ (∃ n, bl2 c m n A C) ∧ ∃ r : Nat, A c 1 = nI r ∧ C (m + 4) 0 = nI r ∧ 1 ≤ r ∧ r ≤ 999) (Q_readBarrel p c I) (M_failsAtBarrel m J) := by
  unfold Q_readBarrel M_failsAtBarrel
  rcases num_st (q := 0) (lo := 1) (hi := 999) ht (by decide) (by decide) with ⟨v0, R1, S1, a1, a2, a3, a4, t1, b1, b2, f1, -, g1, f3, g2, ⟨Ib, ib1, ib2⟩⟩ | ⟨R, S, a1, a2, a3⟩
  · rw [a1, a2, lt_p true R1, lt_p false S1]
    dsimp only
    rw [if_pos (show true = true from rfl), if_neg (show ¬ false = true by decide)]
    simp only [lt_eq]
    have tb := tok_next (tk_of (J' := ow_u S1 m 13 (nI 1)) ib2 (fun _ _ _ => rfl) rfl (fun j hj => by rw [u_one, if_neg (by omega)]) (rr_u (by omega)))
    rw [← ib1] at tb
    have g13 : M_readToken m (ow_u S1 m 13 (nI 1)) m 13 = nI 1 := by rw [fr_readToken (by omega), ow_u_s]
    have g4 : M_readToken m (ow_u S1 m 13 (nI 1)) (m + 4) 0 = nI v0 := by rw [rr_readToken (by omega), rr_u (by omega), b2]
    generalize M_readToken m (ow_u S1 m 13 (nI 1)) = S2 at tb g13 g4 ⊢
    have tc : tk (p + 1) m (ow_u R1 c 1 (R1 p 4)) S2 := tk_row tb (rr_u (by omega)) (rr_u (by omega)) rfl rfl
    refine pr_m (brL hc 11 0 _ S2 (by omega) (by omega) tc g13 (fun z => by omega) (fun j hj => by omega)) (fun A C _ _ h => ⟨h.1, h.2.1, v0, ?_, ?_, a3, a4⟩)
    · rw [h.2.2.1, ow_u_s, b1]
    · rw [h.2.2.2, g4]
  · rw [a1, a2, lt_p false R, lt_p true S]
    dsimp only
    rw [if_neg (show ¬ false = true by decide), if_pos (show true = true from rfl)]
    exact pr_f a3
end BRL
