/-! BUYERS READ -/
section BYR
variable {p m a : Nat} {I J I' J' : ow_I}
theorem ps_buyer {k v0 : Nat} {s f : Int32} (h : ps a m I J) (h6 : tn (J (m + 1) 6) = k) (hk : k < 6) (h7 : tn (J (m + 1) 7) = 0) (hv : v0 ≤ 9999) :
    ps a m (K_takeBuyer a (nI v0) s f I) (M_addBuyer m (nI v0) s f J) := by
  obtain ⟨hr, hB, hi⟩ := h
  have hB2 := hB
  obtain ⟨o1, o2, o3⟩ := @ab_6 m (nI v0) s f J hB.2.1.1 (by omega) |>.imp_right (fun z => (⟨z, trivial⟩ : _ ∧ True))
  have oo := fun k (hk : k < 6 ∨ (6 < k ∧ k < 15) ∨ (15 < k ∧ k < 36) ∨ 66 ≤ k) => @ab_o m k (nI v0) s f J (by omega) hk
  have h12 : tn (J (m + 1) 12) = 0 := by rw [hB.2.2.2.2.2.1, h7]
  have hBn : md_B (M_addBuyer m (nI v0) s f J (m + 1)) := B_of hB ⟨o1, by omega⟩ (fun k hk => oo k (by omega))
  have e6 : J (m + 1) 6 = nI k := by rw [← nI_tn hB.2.1.1, h6]
  obtain ⟨⟨t1, t2, t3⟩, ⟨s1, s2, s3, s4, s5, s6⟩, ⟨c1, c2, c3⟩, ⟨b1, b2, b3, b4⟩, hY, hQ, hBB⟩ := hr
  have t8 : tn (I a 8) = k := by rw [c1, h6]
  have n7 : tn (M_addBuyer m (nI v0) s f J (m + 1) 7) = 0 := by rw [oo 7 (by omega), h7]
  have n12 : tn (M_addBuyer m (nI v0) s f J (m + 1) 12) = 0 := by rw [oo 12 (by omega), h12]
  have nb : ∀ i w, i < k → w < 5 → M_addBuyer m (nI v0) s f J (m + 1) (36 + 5 * i + w) = J (m + 1) (36 + 5 * i + w) := fun i w hi hw => by
    simp only [M_addBuyer, M_put, lt_eq, h6]
    simp (disch := omega) only [u_one, if_neg]
  have nn : ∀ w, w < 5 → M_addBuyer m (nI v0) s f J (m + 1) (36 + 5 * k + w) = (if w = 0 then nI v0 else if w = 1 then s else if w = 2 then f else nI 0) := fun w hw => by
    simp only [M_addBuyer, M_put, lt_eq, h6]
    have : w = 0 ∨ w = 1 ∨ w = 2 ∨ w = 3 ∨ w = 4 := by omega
    rcases this with rfl | rfl | rfl | rfl | rfl <;> simp (disch := omega) only [u_one, if_neg, if_pos, if_true]
  have n15 : M_addBuyer m (nI v0) s f J (m + 1) 15 = J (m + 1) 15 + nI v0 := by
    simp only [M_addBuyer, M_put, lt_eq, h6]
    simp (disch := omega) only [u_one, if_neg, if_pos, if_true]
  have n6 : M_addBuyer m (nI v0) s f J (m + 1) 6 = J (m + 1) 6 + nI 1 := by
    simp only [M_addBuyer, M_put, lt_eq, h6]
    simp (disch := omega) only [u_one, if_neg, if_pos, if_true]
  have n8 : M_addBuyer m (nI v0) s f J (m + 1) 8 = -1 := by rw [oo 8 (by omega)]; exact hB.2.2.2.1
  have n10 : M_addBuyer m (nI v0) s f J (m + 1) 10 = -1 := by rw [oo 10 (by omega)]; exact hB.2.2.2.2.1
  unfold ps
  generalize M_addBuyer m (nI v0) s f J (m + 1) = g at oo hBn n7 n12 nb nn n15 n6 n8 n10 o2
  refine ⟨?_, hBn, iH_c hi.1 (fun j hj => oo j (by omega)), fun i hi2 => ?_, fun i hi2 => by omega, fun z => ?_, fun z => ?_, ?_⟩
  · simp only [K_takeBuyer, Y_begin, lt_eq, t8]
    rw [if_neg (by omega)]
    refine ⟨⟨?_, ?_, ?_⟩, ⟨?_, ?_, ?_, ?_, ?_, ?_⟩, ⟨?_, ?_, ?_⟩, ⟨?_, ?_, ?_, ?_⟩, fun i hi2 w hw => ?_, fun i hi2 => by omega, fun i hi2 => by omega⟩
    all_goals (simp (disch := omega) only [u_one, rr_u, if_neg, if_pos, if_true])
    · rw [t1, oo 0 (by omega)]
    · rw [t2, oo 1 (by omega)]
    · rw [t3, oo 5 (by omega)]
    · rw [s1, oo 2 (by omega)]
    · rw [s2, oo 3 (by omega)]
    · rw [s3, oo 4 (by omega)]
    · rw [s4, oo 13 (by omega)]
    · rw [s5, oo 14 (by omega)]
    · rw [s6, n15]
    · rw [c1, n6]
    · rw [c2, oo 7 (by omega)]
    · rw [c3, oo 12 (by omega)]
    · rw [b1, oo 8 (by omega)]
    · rw [b2, oo 10 (by omega)]
    · rw [b3, if_pos hB2.2.2.2.2.1]
    · rw [b4, if_pos hB2.2.2.2.1]
    · by_cases d : i = k
      · rw [d, nn w hw]
        have : w = 0 ∨ w = 1 ∨ w = 2 ∨ w = 3 ∨ w = 4 := by omega
        rcases this with rfl | rfl | rfl | rfl | rfl <;> simp (disch := omega) only [u_one, rr_u, if_neg, if_pos, if_true]
      · rw [nb i w (by omega) hw]
        simp (disch := omega) only [rr_u]
        exact hY i (by omega) w hw
  · by_cases d : i = k
    · rw [d]
      have := nn 0 (by omega)
      rw [if_pos rfl, Nat.add_zero] at this
      exact ⟨v0, this, by omega⟩
    · have := nb i 0 (by omega) (by omega)
      rw [Nat.add_zero] at this
      rw [this]
      exact hi.2.1 i (by omega)
  · rw [n8] at z
    exact absurd z (by decide)
  · rw [n10] at z
    exact absurd z (by decide)
  · obtain ⟨c, e, hc⟩ := hi.2.2.2.2.2
    rw [h7] at hc
    refine ⟨c, by rw [oo 13 (by omega)]; exact e, ?_⟩
    have : c = 0 := by
      have : sdN (J (m + 1)) 0 = 0 := rfl
      rw [this] at hc
      omega
    rw [this]
    exact Nat.zero_le _
theorem byr_eq {k : Nat} (hd : a + 51 ≤ p ∨ p + 46 ≤ a) (ht : tk (p + 1) m I J) (hR : RW m J) (hP : ps a m I J) (h6 : tn (J (m + 1) 6) = k) (hk : k < 6) (h7 : tn (J (m + 1) 7) = 0) :
    pr p m (fun A C => tk (p + 1) m A C ∧ ps a m A C ∧ RW m C ∧ tn (C (m + 1) 6) = k + 1 ∧ tn (C (m + 1) 7) = 0) (Q_readBuyer p a I) (M_failsAtBuyer m J) := by
  obtain ⟨q, hq, w1, w2, -⟩ := wo_eq ht hR
  have key : pr p m (fun A C => tk (p + 1) m A C ∧ ps a m A C ∧ tn (C (m + 1) 6) = k + 1 ∧ tn (C (m + 1) 7) = 0) (Q_readBuyer p a I) (M_failsAtBuyer m J) := by
    unfold Q_readBuyer M_failsAtBuyer
    by_cases c : U_isWord (p + 1) 1 I = true
    · have q0 := (w2 1 (by decide)).mp c
      have n6 : ¬ J (m + 1) 6 = nI 6 := fun z => by rw [z, tn_nI (by decide)] at h6; omega
      rw [word_t c, lt_p true]
      dsimp only
      rw [if_pos (show true = true from rfl), if_pos (show M_wordOf m J = nI 1 by rw [w1, ← q0]), if_neg n6]
      have t0 := tok_next ht
      have P0 : ps a m (U_advance (p + 1) I) J := ⟨rl_I0 hP.1 hP.2.1 (fun b z1 z2 => rr_adv (by omega)), hP.2⟩
      generalize U_advance (p + 1) I = I0 at t0 P0 ⊢
      rcases num_st (q := 0) (lo := 0) (hi := 9999) t0 (by decide) (by decide) with ⟨v0, R1, S1, a1, a2, -, a4, t1, b1, b2, f1, -, g1, f3, -⟩ | ⟨R, S, a1, a2, a3⟩
      · rw [a1, a2, lt_p true R1, lt_p false S1]
        dsimp only
        rw [if_pos (show true = true from rfl), if_neg (show ¬ false = true by decide)]
        rcases num_st (q := 1) (lo := 0) (hi := 4) t1 (by decide) (by decide) with ⟨v1, R2, S2, a1, a2, -, -, t2, b3, b4, f2, -, g2, f4, -⟩ | ⟨R, S, a1, a2, a3⟩
        · rw [a1, a2, lt_p true R2, lt_p false S2]
          dsimp only
          rw [if_pos (show true = true from rfl), if_neg (show ¬ false = true by decide)]
          rcases num_st (q := 2) (lo := 1) (hi := 999) t2 (by decide) (by decide) with ⟨v2, R3, S3, a1, a2, -, -, t3, b5, b6, f3', -, g3, f5, -, ⟨Ib, ib1, ib2⟩⟩ | ⟨R, S, a1, a2, a3⟩
          · rw [a1, a2, lt_p true R3, lt_p false S3]
            dsimp only
            rw [if_pos (show true = true from rfl), if_neg (show ¬ false = true by decide)]
            have s0 : S3 (m + 4) 0 = nI v0 := by rw [f5 0 (by decide), f4 0 (by decide), b2]
            have s1 : S3 (m + 4) 1 = nI v1 := by rw [f5 1 (by decide), b4]
            have sm : S3 (m + 1) = J (m + 1) := by rw [g3 _ (by omega) (by omega), g2 _ (by omega) (by omega), g1 _ (by omega) (by omega)]
            have P3 : ps a m R3 S3 := by
              unfold ps
              rw [sm]
              exact ⟨rl_I0 P0.1 P0.2.1 (fun b z1 z2 => by rw [f3' b (by omega) (by omega), f2 b (by omega) (by omega), f1 b (by omega) (by omega)]), P0.2⟩
            rw [b1, b3, b5, s0, s1, b6]
            have P4 := ps_buyer (s := nI v1) (f := nI v2) P3 (by rw [sm, h6]) hk (by rw [sm, h7]) a4
            have k8 : tn (R3 a 8) ≤ 6 := by rw [P3.1.2.2.1.1]; exact P3.2.1.2.1.2
            have n6 := (@ab_6 m (nI v0) (nI v1) (nI v2) S3 P3.2.1.2.1.1 (by rw [sm]; omega)).2
            have n7 := @ab_o m 7 (nI v0) (nI v1) (nI v2) S3 (by rw [sm]; omega) (by omega)
            have bt : tk (p + 1) m (K_takeBuyer a (nI v0) (nI v1) (nI v2) R3) (M_readToken m (M_addBuyer m (nI v0) (nI v1) (nI v2) S3)) := by
              have q := tok_next (tk_row (I' := Ib) (J' := M_addBuyer m (nI v0) (nI v1) (nI v2) S3) ib2 rfl rfl (rr_addBuyer (by omega)) (rr_addBuyer (by omega)))
              rw [← ib1] at q
              exact tk_row q (rr_tbuy (by omega) k8) (rr_tbuy (by omega) k8) rfl rfl
            simp only [M_failsAtNext, lt_eq]
            rw [pm_eta, pm_eta]
            refine pr_m (semi_st bt) (fun A C _ _ h => ⟨h.1, ?_, ?_, ?_⟩)
            · unfold ps
              rw [h.2.2.2.1 _ (by omega), rr_readToken (by omega)]
              exact ⟨rl_I0 P4.1 P4.2.1 (fun b z1 z2 => h.2.1 b (by omega) (by omega)), P4.2⟩
            · rw [h.2.2.2.1 _ (by omega), rr_readToken (by omega), n6, sm, h6]
            · rw [h.2.2.2.1 _ (by omega), rr_readToken (by omega), n7, sm, h7]
          · rw [a1, a2, lt_p false R, lt_p true S]
            dsimp only
            rw [if_neg (show ¬ false = true by decide), if_pos (show true = true from rfl)]
            exact pr_f a3
        · rw [a1, a2, lt_p false R, lt_p true S]
          dsimp only
          rw [if_neg (show ¬ false = true by decide), if_pos (show true = true from rfl)]
          exact pr_f a3
      · rw [a1, a2, lt_p false R, lt_p true S]
        dsimp only
        rw [if_neg (show ¬ false = true by decide), if_pos (show true = true from rfl)]
        exact pr_f a3
    · have q0 : ¬ M_wordOf m J = nI 1 := fun z => c ((w2 1 (by decide)).mpr ((nI_eq (by omega) (by decide)).mp (w1.symm.trans z)).symm)
      obtain ⟨f1, f2, f3⟩ := fail_er (c := nI 1) ht
      rw [word_f c, if_neg q0, prod_eq f1, prod_eq f2, lt_p false, lt_p true]
      dsimp only
      rw [if_neg (show ¬ false = true by decide)]
      exact pr_f f3
  refine pr_m key (fun A C h1 h2 h => ⟨h.1, h.2.1, ?_, h.2.2⟩)
  have : C = (M_failsAtBuyer m J).2 := by rw [h2]
  rw [this]
  exact RW_of hR (rr_byr (by omega) (by omega) (by omega))
theorem byrs_loop (hd : a + 51 ≤ p ∨ p + 46 ≤ a) : ∀ (k i : Nat) (I J : ow_I), 1 ≤ i → i ≤ 6 → 7 - i < k → tk (p + 1) m I J → RW m J → ps a m I J → tn (J (m + 1) 6) = i → tn (J (m + 1) 7) = 0 →
    (∃ A C, Q_readBuyers_L12 p a k I i = (true, A) ∧ M_failsAtSetup_L20 m k J = M_failsAtSetup_L37 m 21 C ∧ tk (p + 1) m A C ∧ ps a m A C ∧ RW m C ∧ 1 ≤ tn (C (m + 1) 6) ∧ tn (C (m + 1) 7) = 0) ∨ (∃ A C, Q_readBuyers_L12 p a k I i = (false, A) ∧ M_failsAtSetup_L20 m k J = (true, C) ∧ pe p m A C) := by
  intro k
  induction k with
  | zero => intro i I J h1 h2 h3; omega
  | succ k ih =>
    intro i I J h1 h2 h3 ht hR hP h6 h7
    obtain ⟨q, hq, w1, w2, -⟩ := wo_eq ht hR
    unfold Q_readBuyers_L12 M_failsAtSetup_L20
    rw [if_neg (show ¬ 6 < i by omega)]
    by_cases c : U_isWord (p + 1) 1 I = true
    · have q0 := (w2 1 (by decide)).mp c
      have w : M_wordOf m J = nI 1 := by rw [w1, ← q0]
      rw [if_pos c, if_pos w]
      by_cases d : i = 6
      · right
        rw [if_pos d]
        obtain ⟨f1, f2, f3⟩ := fail_er (c := nI 3) ht
        unfold M_failsAtBuyer
        rw [if_pos w, if_pos (show J (m + 1) 6 = nI 6 by rw [← nI_tn hP.2.1.2.1.1, h6, d]), prod_eq f1, prod_eq f2, lt_p false, lt_p true]
        dsimp only
        rw [lt_p true]
        dsimp only
        rw [if_pos (show true = true from rfl)]
        exact ⟨_, _, rfl, rfl, f3⟩
      · rw [if_neg d]
        rcases byr_eq hd ht hR hP h6 (by omega) h7 with ⟨A, C, e1, e2, g1, g2, g3, g4, g5⟩ | ⟨A, C, e1, e2, g⟩
        · rw [e1, e2, lt_p true, lt_p false]
          dsimp only
          rw [if_pos (show true = true from rfl), if_neg (show ¬ false = true by decide)]
          exact ih (i + 1) A C (by omega) (by omega) (by omega) g1 g3 g2 g4 g5
        · right
          rw [e1, e2, lt_p false, lt_p true]
          dsimp only
          rw [if_neg (show ¬ false = true by decide), if_pos (show true = true from rfl)]
          exact ⟨_, _, rfl, rfl, g⟩
    · have q0 : ¬ M_wordOf m J = nI 1 := fun z => c ((w2 1 (by decide)).mpr ((nI_eq (by omega) (by decide)).mp (w1.symm.trans z)).symm)
      rw [if_neg c, if_neg q0]
      exact Or.inl ⟨I, J, rfl, rfl, ht, hP, hR, by omega, h7⟩
end BYR
