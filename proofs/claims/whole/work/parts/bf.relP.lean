/-! THE QUESTIONS: both answer alike -/
def kx (l : List Nat) (c : Nat) : Nat := if c = 0 then 0 else l.findIdx (fun y => y == c) + 1
def an (x m B : Nat) {α : Type} (l : List Nat) (c : Nat) (v w : α) (I J : ow_I) : Prop := RR x m B I J ∧ J m 18 = nI (kx l c) ∧ (c = 0 → v = w)
section RRQ
variable {x m B : Nat} {I J : ow_I}
theorem RR_18 {y : Int32} (h : RR x m B I J) : RR x m B I (ow_u J m 18 y) := RR_cell h (by decide)
theorem buy_or {b : Int32} (h : RR x m B I J) : (A_requireBuyer x b I = 0 ∧ M_lacksBuyer m b J = (false, ow_u J m 18 (nI 0)) ∧ 0 ≤ b ∧ tn b < tn (J (m + 1) 6)) ∨ (A_requireBuyer x b I = 3 ∧ M_lacksBuyer m b J = (true, ow_u (ow_u J m 18 (nI 0)) m 18 (nI 1))) := by
  have hr := h.2.1.1
  have h6 := h.2.1.2.1.2.1
  have e6 : ow_u J m 18 (nI 0) (m + 1) 6 = J (m + 1) 6 := by rw [rr_u (by omega)]
  have en : J (m + 1) 6 - nI 1 = nI (tn (J (m + 1) 6) - 1) := by
    rw [← nI_sb (by omega), nI_tn h6.1]
  unfold A_requireBuyer M_lacksBuyer
  simp only [lt_eq, e6, en]
  by_cases c : 0 ≤ b ∧ b < J (m + 1) 6
  · refine Or.inl ⟨by rw [if_pos ((hb_eq hr).mpr c)], ?_, c.1, (lt_tn c.2 c.1).2⟩
    have hin : M_in b (nI 0) (nI (tn (J (m + 1) 6) - 1)) (ow_u J m 18 (nI 0)) = true := by
      unfold M_in
      rw [if_neg (show ¬ b < nI 0 from i_ge c.1), if_neg]
      intro z
      have := (lt_tn c.2 c.1).2
      rw [← nI_tn c.1] at z
      have := (nI_ltI (by omega) (by omega)).mp z
      omega
    rw [hin, if_pos rfl]
  · refine Or.inr ⟨by rw [if_neg (fun z => c ((hb_eq hr).mp z))], ?_⟩
    have hin : M_in b (nI 0) (nI (tn (J (m + 1) 6) - 1)) (ow_u J m 18 (nI 0)) = false := by
      unfold M_in
      by_cases d : b < nI 0
      · rw [if_pos d]
      · rw [if_neg d, if_pos]
        have d0 : 0 ≤ b := i_nlt d
        have d1 : J (m + 1) 6 ≤ b := i_nlt (fun z => c ⟨d0, z⟩)
        rw [← nI_tn h6.1, ← nI_tn d0] at d1
        have := (nI_leI (by omega) (tn_lt b)).mp d1
        rw [← nI_tn d0]
        exact nI_lt (by omega) (tn_lt b)
    rw [hin, if_neg (by decide)]
theorem bar_or {b : Int32} (h : RR x m B I J) : (A_requireBarrel x b I = 0 ∧ A_barrelAt x b I = 0 ∧ M_lacksBarrel m b J = (false, ow_u J m 18 (nI 0)) ∧ M_isBarrel m b J = true ∧ 0 ≤ b ∧ tn b < tn (J (m + 1) 7)) ∨ (A_requireBarrel x b I = 3 ∧ A_barrelAt x b I = 3 ∧ M_lacksBarrel m b J = (true, ow_u (ow_u J m 18 (nI 0)) m 18 (nI 1))) := by
  have hr := h.2.1.1
  have hv := h.2.1.2.1
  have e7 : M_isBarrel m b (ow_u J m 18 (nI 0)) = M_isBarrel m b J := by
    unfold M_isBarrel
    rw [rr_u (by omega)]
  unfold A_barrelAt A_requireBarrel M_lacksBarrel
  simp only [lt_eq, e7, wt_eq hr]
  by_cases c : M_isBarrel m b J = true
  · have hx := isB_tn hv c
    exact Or.inl ⟨by rw [if_pos c], by rw [if_pos c, if_pos rfl], by rw [if_pos c], c, hx.1, hx.2⟩
  · exact Or.inr ⟨by rw [if_neg c], by rw [if_neg c, if_neg (by decide)], by rw [if_neg c]⟩
theorem buyAt_eq {b : Int32} : A_buyerAt x b I = A_requireBuyer x b I := by
  unfold A_buyerAt
  split
  · rename_i z
    rw [z]
  · rfl
theorem rng_or {v lo hi : Int32} : (A_requireRange v lo hi I = 0 ∧ M_in v lo hi J = true ∧ lo ≤ v ∧ v ≤ hi) ∨ (A_requireRange v lo hi I = 1 ∧ M_in v lo hi J = false) := by
  unfold A_requireRange M_in
  by_cases c : v < lo
  · exact Or.inr ⟨by rw [if_pos c], by rw [if_pos c]⟩
  · by_cases d : v ≤ hi
    · exact Or.inl ⟨by rw [if_neg c, if_pos d], by rw [if_neg c, if_neg (fun z => by rw [Int32.le_iff_toInt_le] at d; rw [Int32.lt_iff_toInt_lt] at z; omega)], i_nlt c, d⟩
    · exact Or.inr ⟨by rw [if_neg c, if_neg d], by rw [if_neg c, if_pos (i_lt d)]⟩
theorem J18 : ow_u J m 18 (nI 0) m 18 = nI (kx [] 0) := ow_u_s _ _ _ _
theorem e18 {a : Nat} (h : a ≠ m) : ow_u J m 18 (nI 0) a = J a := rr_u h

theorem q_minute (h : RR x m B I J) : A_minute x I = (M_minute m J).1 ∧ RR x m B I (M_minute m J).2 := by
  refine ⟨?_, RR_18 h⟩
  simp only [A_minute, M_minute, lt_eq, e18 (show m + 1 ≠ m by omega)]
  exact h.2.1.1.1.2.2
theorem q_step (h : RR x m B I J) : A_step x I = (M_step m J).1 ∧ RR x m B I (M_step m J).2 := by
  refine ⟨?_, RR_18 h⟩
  simp only [A_step, M_step, lt_eq, e18 (show m + 1 ≠ m by omega)]
  exact h.2.1.1.2.1.2.1
theorem q_sellerCoins (h : RR x m B I J) : A_sellerCoins x I = (M_sellerCoins m J).1 ∧ RR x m B I (M_sellerCoins m J).2 := by
  refine ⟨?_, RR_18 h⟩
  simp only [A_sellerCoins, M_sellerCoins, lt_eq, e18 (show m + 1 ≠ m by omega)]
  exact h.2.1.1.2.1.2.2.2.1
theorem q_houseCoins (h : RR x m B I J) : A_houseCoins x I = (M_houseCoins m J).1 ∧ RR x m B I (M_houseCoins m J).2 := by
  refine ⟨?_, RR_18 h⟩
  simp only [A_houseCoins, M_houseCoins, lt_eq, e18 (show m + 1 ≠ m by omega)]
  exact h.2.1.1.2.1.2.2.2.2.1
theorem q_openBarrel (h : RR x m B I J) : A_openBarrel x I = (M_openBarrel m J).1 ∧ RR x m B I (M_openBarrel m J).2 := by
  refine ⟨?_, RR_18 h⟩
  simp only [A_openBarrel, M_openBarrel, lt_eq, e18 (show m + 1 ≠ m by omega)]
  exact h.2.1.1.2.2.2.1.1
theorem q_leader (h : RR x m B I J) : A_leader x I = (M_leader m J).1 ∧ RR x m B I (M_leader m J).2 := by
  refine ⟨?_, RR_18 h⟩
  simp only [A_leader, M_leader, lt_eq, e18 (show m + 1 ≠ m by omega)]
  exact h.2.1.1.2.2.2.1.2.1
theorem q_queueLength (h : RR x m B I J) : A_queueLength x I = (M_queueLength m J).1 ∧ RR x m B I (M_queueLength m J).2 := by
  refine ⟨?_, RR_18 h⟩
  simp only [A_queueLength, M_queueLength, lt_eq, e18 (show m + 1 ≠ m by omega)]
  exact h.2.1.1.2.2.1.2.2
theorem q_barrelCount (h : RR x m B I J) : A_barrelCount x I = (M_barrelCount m J).1 ∧ RR x m B I (M_barrelCount m J).2 := by
  refine ⟨?_, RR_18 h⟩
  simp only [A_barrelCount, M_barrelCount, lt_eq, e18 (show m + 1 ≠ m by omega)]
  exact h.2.1.1.2.2.1.2.1
theorem q_buyerCount (h : RR x m B I J) : A_buyerCount x I = (M_buyerCount m J).1 ∧ RR x m B I (M_buyerCount m J).2 := by
  refine ⟨?_, RR_18 h⟩
  simp only [A_buyerCount, M_buyerCount, lt_eq, e18 (show m + 1 ≠ m by omega)]
  exact h.2.1.1.2.2.1.1
theorem q_errorCode (h : RR x m B I J) : A_errorCode x I = (M_errorCode m J).1 ∧ RR x m B I (M_errorCode m J).2 := by
  refine ⟨?_, RR_18 h⟩
  simp only [A_errorCode, M_errorCode, lt_eq]
  rw [u_one, if_neg (by decide)]
  exact h.2.2.2.2.2.1.1
theorem q_errorPosition (h : RR x m B I J) : A_errorPosition x I = (M_errorPosition m J).1 ∧ RR x m B I (M_errorPosition m J).2 := by
  refine ⟨?_, RR_18 h⟩
  simp only [A_errorPosition, M_errorPosition, lt_eq]
  rw [u_one, if_neg (by decide)]
  exact h.2.2.2.2.2.1.2
theorem q_isOpen (h : RR x m B I J) : A_isOpen x I = (M_isOpen m J).1 ∧ RR x m B I (M_isOpen m J).2 := by
  refine ⟨?_, RR_18 h⟩
  have h1 := (RR_18 (y := nI 0) h).2.1
  simp only [A_isOpen, M_isOpen, lt_eq]
  exact low_eq h1.1.1.1 h1.1.1.2.1 h1.1.1.2.2 h1.2.2
theorem q_bid (h : RR x m B I J) : A_bid x I = (M_bid m J).1 ∧ RR x m B I (M_bid m J).2 := by
  have hv := h.2.1.2.1
  have e := h.2.1.1.2.2.2.1.2.2.1
  simp only [A_bid, M_bid, lt_eq, e18 (show m + 1 ≠ m by omega), e]
  rcases mV10 hv with q | q
  · rw [if_pos q, if_neg (by rw [q]; exact i_m1)]
    exact ⟨rfl, RR_18 h⟩
  · rw [if_neg (nm1 q.1), if_pos q.1]
    exact ⟨rfl, RR_18 h⟩
theorem q_quiet (h : RR x m B I J) : A_quiet x I = (M_quiet m J).1 ∧ RR x m B I (M_quiet m J).2 := by
  have hv := h.2.1.2.1
  have e := h.2.1.1.2.2.2.1.2.2.2
  simp only [A_quiet, M_quiet, lt_eq, e18 (show m + 1 ≠ m by omega), e]
  rcases mV8 hv with q | q
  · rw [if_pos q, if_neg (by rw [q]; exact i_m1)]
    exact ⟨rfl, RR_18 h⟩
  · rw [if_neg (nm1 q.1), if_pos q.1]
    exact ⟨rfl, RR_18 h⟩
theorem q_nextBid (h : RR x m B I J) : A_nextBid x I = (M_nextBid m J).1 ∧ RR x m B I (M_nextBid m J).2 := by
  have h1 := (RR_18 (y := nI 0) h).2.1
  have hv := h.2.1.2.1
  simp only [A_nextBid, M_nextBid, lt_eq, e18 (show m + 1 ≠ m by omega)]
  rcases mV8 hv with q | q
  · rw [if_neg (by rw [q]; exact i_m1)]
    refine ⟨?_, RR_18 h⟩
    unfold K_nextPrice
    rw [h.2.1.1.2.2.2.1.1, if_pos q]
  · rw [if_pos q.1]
    exact ⟨np_eq h1.1 h1.2.1 (by rw [e18 (by omega)]; exact q.1), RR_18 h⟩
theorem q_queuedBarrel {p : Int32} (h : RR x m B I J) : A_queuedBarrel x p I = (M_queuedBarrel m p J).1 ∧ RR x m B I (M_queuedBarrel m p J).2 := by
  simp only [A_queuedBarrel, M_queuedBarrel, lt_eq, e18 (show m + 1 ≠ m by omega), h.2.1.1.2.2.1.2.2]
  by_cases c : p < 0
  · rw [if_pos c, if_pos c]
    exact ⟨rfl, RR_18 h⟩
  · rw [if_neg c, if_neg c]
    by_cases d : J (m + 1) 12 ≤ p
    · rw [if_pos d, if_neg (fun z => by rw [Int32.le_iff_toInt_le] at d; rw [Int32.lt_iff_toInt_lt] at z; omega)]
      exact ⟨rfl, RR_18 h⟩
    · rw [if_neg d, if_pos (i_lt d)]
      exact ⟨h.2.1.1.2.2.2.2.2.1 (tn p) (lt_tn (i_lt d) (i_nlt c)).2, RR_18 h⟩
theorem q_nextNodder (h : RR x m B I J) : A_nextNodder x I = (M_nextNodder m J).1 ∧ RR x m B I (M_nextNodder m J).2 := by
  have h1 := (RR_18 (y := nI 0) h).2.1
  exact ⟨who_eq h1.1 h1.2.1 h1.2.2, RR_18 h⟩
theorem q_eels {b : Int32} (h : RR x m B I J) : an x m B [3] (A_eels x b I).1 (A_eels x b I).2 (M_eels m b J).1 I (M_eels m b J).2 := by
  rcases bar_or (b := b) h with ⟨-, q2, q3, -, q5, q6⟩ | ⟨-, q2, q3⟩
  · simp only [A_eels, M_eels, lt_eq, q2, q3, if_true]
    rw [if_neg (by decide)]
    refine ⟨RR_18 h, ow_u_s _ _ _ _, fun _ => ?_⟩
    show _ = ow_u J m 18 (nI 0) (m + 1) (66 + 15 * tn b + 0)
    rw [e18 (by omega)]
    exact (h.2.1.1.2.2.2.2.2.2 (tn b) q6).1.1
  · simp only [A_eels, M_eels, lt_eq, q2, q3, if_true]
    rw [if_neg (by decide)]
    exact ⟨RR_18 (RR_18 h), ow_u_s _ _ _ _, fun z => absurd z (by decide)⟩
theorem q_reserve {b : Int32} (h : RR x m B I J) : an x m B [3] (A_reserve x b I).1 (A_reserve x b I).2 (M_reserve m b J).1 I (M_reserve m b J).2 := by
  rcases bar_or (b := b) h with ⟨-, q2, q3, -, q5, q6⟩ | ⟨-, q2, q3⟩
  · simp only [A_reserve, M_reserve, lt_eq, q2, q3, if_true]
    rw [if_neg (by decide)]
    refine ⟨RR_18 h, ow_u_s _ _ _ _, fun _ => ?_⟩
    show _ = ow_u J m 18 (nI 0) (m + 1) (66 + 15 * tn b + 10)
    rw [e18 (by omega)]
    exact (h.2.1.1.2.2.2.2.2.2 (tn b) q6).2.2.1
  · simp only [A_reserve, M_reserve, lt_eq, q2, q3, if_true]
    rw [if_neg (by decide)]
    exact ⟨RR_18 (RR_18 h), ow_u_s _ _ _ _, fun z => absurd z (by decide)⟩
theorem q_stateOf {b : Int32} (h : RR x m B I J) : an x m B [3] (A_stateOf x b I).1 (A_stateOf x b I).2 (M_stateOf m b J).1 I (M_stateOf m b J).2 := by
  rcases bar_or (b := b) h with ⟨-, q2, q3, -, q5, q6⟩ | ⟨-, q2, q3⟩
  · simp only [A_stateOf, M_stateOf, lt_eq, q2, q3, if_true]
    rw [if_neg (by decide)]
    refine ⟨RR_18 h, ow_u_s _ _ _ _, fun _ => ?_⟩
    show _ = ow_u J m 18 (nI 0) (m + 1) (66 + 15 * tn b + 12)
    rw [e18 (by omega)]
    exact (h.2.1.1.2.2.2.2.2.2 (tn b) q6).2.2.2.2.1
  · simp only [A_stateOf, M_stateOf, lt_eq, q2, q3, if_true]
    rw [if_neg (by decide)]
    exact ⟨RR_18 (RR_18 h), ow_u_s _ _ _ _, fun z => absurd z (by decide)⟩
theorem q_returns {b : Int32} (h : RR x m B I J) : an x m B [3] (A_returns x b I).1 (A_returns x b I).2 (M_returns m b J).1 I (M_returns m b J).2 := by
  rcases bar_or (b := b) h with ⟨-, q2, q3, -, q5, q6⟩ | ⟨-, q2, q3⟩
  · simp only [A_returns, M_returns, lt_eq, q2, q3, if_true]
    rw [if_neg (by decide)]
    refine ⟨RR_18 h, ow_u_s _ _ _ _, fun _ => ?_⟩
    show _ = ow_u J m 18 (nI 0) (m + 1) (66 + 15 * tn b + 11)
    rw [e18 (by omega)]
    exact (h.2.1.1.2.2.2.2.2.2 (tn b) q6).2.2.2.1
  · simp only [A_returns, M_returns, lt_eq, q2, q3, if_true]
    rw [if_neg (by decide)]
    exact ⟨RR_18 (RR_18 h), ow_u_s _ _ _ _, fun z => absurd z (by decide)⟩
theorem q_buyerOf {b : Int32} (h : RR x m B I J) : an x m B [3] (A_buyerOf x b I).1 (A_buyerOf x b I).2 (M_buyerOf m b J).1 I (M_buyerOf m b J).2 := by
  rcases bar_or (b := b) h with ⟨-, q2, q3, -, q5, q6⟩ | ⟨-, q2, q3⟩
  · simp only [A_buyerOf, M_buyerOf, lt_eq, q2, q3, if_true]
    rw [if_neg (by decide)]
    refine ⟨RR_18 h, ow_u_s _ _ _ _, fun _ => ?_⟩
    show _ = ow_u J m 18 (nI 0) (m + 1) (66 + 15 * tn b + 13)
    rw [e18 (by omega)]
    exact (h.2.1.1.2.2.2.2.2.2 (tn b) q6).2.2.2.2.2.1
  · simp only [A_buyerOf, M_buyerOf, lt_eq, q2, q3, if_true]
    rw [if_neg (by decide)]
    exact ⟨RR_18 (RR_18 h), ow_u_s _ _ _ _, fun z => absurd z (by decide)⟩
theorem q_priceOf {b : Int32} (h : RR x m B I J) : an x m B [3] (A_priceOf x b I).1 (A_priceOf x b I).2 (M_priceOf m b J).1 I (M_priceOf m b J).2 := by
  rcases bar_or (b := b) h with ⟨-, q2, q3, -, q5, q6⟩ | ⟨-, q2, q3⟩
  · simp only [A_priceOf, M_priceOf, lt_eq, q2, q3, if_true]
    rw [if_neg (by decide)]
    refine ⟨RR_18 h, ow_u_s _ _ _ _, fun _ => ?_⟩
    show _ = ow_u J m 18 (nI 0) (m + 1) (66 + 15 * tn b + 14)
    rw [e18 (by omega)]
    exact (h.2.1.1.2.2.2.2.2.2 (tn b) q6).2.2.2.2.2.2
  · simp only [A_priceOf, M_priceOf, lt_eq, q2, q3, if_true]
    rw [if_neg (by decide)]
    exact ⟨RR_18 (RR_18 h), ow_u_s _ _ _ _, fun z => absurd z (by decide)⟩
theorem q_purse {b : Int32} (h : RR x m B I J) : an x m B [3] (A_purse x b I).1 (A_purse x b I).2 (M_purse m b J).1 I (M_purse m b J).2 := by
  rcases buy_or (b := b) h with ⟨q2, q3, q5, q6⟩ | ⟨q2, q3⟩
  · simp only [A_purse, M_purse, lt_eq, buyAt_eq, q2, q3, if_true]
    rw [if_neg (by decide)]
    refine ⟨RR_18 h, ow_u_s _ _ _ _, fun _ => ?_⟩
    show _ = ow_u J m 18 (nI 0) (m + 1) (36 + 5 * tn b + 0)
    rw [e18 (by omega)]
    exact h.2.1.1.2.2.2.2.1 (tn b) q6 0 (by decide)
  · simp only [A_purse, M_purse, lt_eq, buyAt_eq, q2, q3, if_true]
    rw [if_neg (by decide)]
    exact ⟨RR_18 (RR_18 h), ow_u_s _ _ _ _, fun z => absurd z (by decide)⟩
theorem q_style {b : Int32} (h : RR x m B I J) : an x m B [3] (A_style x b I).1 (A_style x b I).2 (M_style m b J).1 I (M_style m b J).2 := by
  rcases buy_or (b := b) h with ⟨q2, q3, q5, q6⟩ | ⟨q2, q3⟩
  · simp only [A_style, M_style, lt_eq, buyAt_eq, q2, q3, if_true]
    rw [if_neg (by decide)]
    refine ⟨RR_18 h, ow_u_s _ _ _ _, fun _ => ?_⟩
    show _ = ow_u J m 18 (nI 0) (m + 1) (36 + 5 * tn b + 1)
    rw [e18 (by omega)]
    exact h.2.1.1.2.2.2.2.1 (tn b) q6 1 (by decide)
  · simp only [A_style, M_style, lt_eq, buyAt_eq, q2, q3, if_true]
    rw [if_neg (by decide)]
    exact ⟨RR_18 (RR_18 h), ow_u_s _ _ _ _, fun z => absurd z (by decide)⟩
theorem q_factor {b : Int32} (h : RR x m B I J) : an x m B [3] (A_factor x b I).1 (A_factor x b I).2 (M_factor m b J).1 I (M_factor m b J).2 := by
  rcases buy_or (b := b) h with ⟨q2, q3, q5, q6⟩ | ⟨q2, q3⟩
  · simp only [A_factor, M_factor, lt_eq, buyAt_eq, q2, q3, if_true]
    rw [if_neg (by decide)]
    refine ⟨RR_18 h, ow_u_s _ _ _ _, fun _ => ?_⟩
    show _ = ow_u J m 18 (nI 0) (m + 1) (36 + 5 * tn b + 2)
    rw [e18 (by omega)]
    exact h.2.1.1.2.2.2.2.1 (tn b) q6 2 (by decide)
  · simp only [A_factor, M_factor, lt_eq, buyAt_eq, q2, q3, if_true]
    rw [if_neg (by decide)]
    exact ⟨RR_18 (RR_18 h), ow_u_s _ _ _ _, fun z => absurd z (by decide)⟩
theorem q_bought {b : Int32} (h : RR x m B I J) : an x m B [3] (A_bought x b I).1 (A_bought x b I).2 (M_bought m b J).1 I (M_bought m b J).2 := by
  rcases buy_or (b := b) h with ⟨q2, q3, q5, q6⟩ | ⟨q2, q3⟩
  · simp only [A_bought, M_bought, lt_eq, buyAt_eq, q2, q3, if_true]
    rw [if_neg (by decide)]
    refine ⟨RR_18 h, ow_u_s _ _ _ _, fun _ => ?_⟩
    show _ = ow_u J m 18 (nI 0) (m + 1) (36 + 5 * tn b + 3)
    rw [e18 (by omega)]
    exact h.2.1.1.2.2.2.2.1 (tn b) q6 3 (by decide)
  · simp only [A_bought, M_bought, lt_eq, buyAt_eq, q2, q3, if_true]
    rw [if_neg (by decide)]
    exact ⟨RR_18 (RR_18 h), ow_u_s _ _ _ _, fun z => absurd z (by decide)⟩
theorem q_nods {b : Int32} (h : RR x m B I J) : an x m B [3] (A_nods x b I).1 (A_nods x b I).2 (M_nods m b J).1 I (M_nods m b J).2 := by
  rcases buy_or (b := b) h with ⟨q2, q3, q5, q6⟩ | ⟨q2, q3⟩
  · simp only [A_nods, M_nods, lt_eq, buyAt_eq, q2, q3, if_true]
    rw [if_neg (by decide)]
    refine ⟨RR_18 h, ow_u_s _ _ _ _, fun _ => ?_⟩
    show _ = ow_u J m 18 (nI 0) (m + 1) (36 + 5 * tn b + 4)
    rw [e18 (by omega)]
    exact h.2.1.1.2.2.2.2.1 (tn b) q6 4 (by decide)
  · simp only [A_nods, M_nods, lt_eq, buyAt_eq, q2, q3, if_true]
    rw [if_neg (by decide)]
    exact ⟨RR_18 (RR_18 h), ow_u_s _ _ _ _, fun z => absurd z (by decide)⟩
end RRQ
