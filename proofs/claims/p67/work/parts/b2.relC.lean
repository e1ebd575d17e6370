/-! the relation kept: a barrel's bidding ends -/
theorem rl_open {a : Nat} {I : ow_I} {f : Nat → Int32} (hv : md_V f) (h8 : 0 ≤ f 8) : tn (f 8) < tn (f 7) := by
  rcases mV8 hv with q | q
  · rw [q] at h8
    exact absurd h8 i_m1
  · exact q.2
theorem rl_lead {f : Nat → Int32} (hv : md_V f) (h : 0 ≤ f 10) : tn (f 10) < tn (f 6) := by
  rcases mV10 hv with q | q
  · rw [q] at h
    exact absurd h i_m1
  · exact q.2.1
theorem i_ge {x : Int32} (h : 0 ≤ x) : ¬ x < 0 := fun z => by rw [Int32.lt_iff_toInt_lt] at z; rw [Int32.le_iff_toInt_le] at h; omega
section RLC
variable {a m : Nat} {I J : ow_I}
theorem rl_sell (h : rl a I (J (m + 1))) (hv : md_V (J (m + 1))) (h8 : 0 ≤ J (m + 1) 8) (h10 : 0 ≤ J (m + 1) 10) : (K_closeBarrel a I).1 = true ∧ rl a (K_closeBarrel a I).2 (M_closeBarrel m J (m + 1)) := by
  have h6 := hv.2.1
  have h7 := hv.2.2.1.2
  have hk := rl_open (a := a) (I := I) hv h8
  have hy := rl_lead hv h10
  have hn8 := nm1 h8
  have hn10 := nm1 h10
  have fe : ∀ p, K_withFee a p I = M_costOfPrice m p J := fun p => fee_eq h
  obtain ⟨⟨t1, t2, t3⟩, ⟨s1, s2, s3, s4, s5, s6⟩, ⟨c1, c2, c3⟩, ⟨b1, b2, b3, b4⟩, hY, hQ, hB⟩ := h
  rw [if_neg hn10] at b3
  have hy0 := hY _ hy
  have hk0 := hB _ hk
  generalize hE : J (m + 1) 8 = o at h8 hk hn8 b1 hk0
  generalize hL : J (m + 1) 10 = y at h10 hy hn10 b2 hy0
  have hob : tn o < 20 := by omega
  have hyb : tn y < 6 := by omega
  have hny : nI (tn y) = y := nI_tn h10
  generalize hF : M_costOfPrice m (J (m + 1) 9) J = cost at *
  have e1 : K_closeBarrel a I = (true, K_endBidding a (K_sell a (a + 11 + 2 * tn o) (a + 5 + tn y) I)) := by
    simp only [K_closeBarrel, lt_eq, b1, b2, if_neg hn8, if_neg hn10]
  rw [e1]
  refine ⟨rfl, ?_⟩
  simp only [K_endBidding, K_sell, M_closeBarrel, M_sell, M_put, M_putBarrel, M_of, M_ofBarrel, lt_eq, hE, hL, if_neg (i_ge h10), fe, b3, hF]
  refine ⟨⟨?_, ?_, ?_⟩, ⟨?_, ?_, ?_, ?_, ?_, ?_⟩, ⟨?_, ?_, ?_⟩, ⟨?_, ?_, ?_, ?_⟩, rY_1 (i0 := tn y) hY h6.2.2 ?_ (fun j _ _ _ => ?_) (fun q _ _ _ => ?_) (fun _ w hw => ?_), rQ_c hQ hv.2.2.2.2.2.1.2 ?_ (fun j _ _ => ?_) ?_, rB_1 (k0 := tn o) hB hv ?_ (fun j _ _ _ => ?_) (fun q _ _ _ _ => ?_) (fun _ => ?_)⟩
  all_goals (try (simp (disch := omega) only [u_one, rr_u, if_neg, if_pos, if_true]; done))
  all_goals (try (simp (disch := omega) only [u_one, rr_u, if_neg, if_pos, if_true]; assumption))
  · simp (disch := omega) only [u_one, rr_u, if_neg, if_pos, if_true]
    rw [s4, b3]
  · simp (disch := omega) only [u_one, rr_u, if_neg, if_pos, if_true]
    rw [s5, b3]
  · by_cases c : w = 0
    · rw [c]
      simp (disch := omega) only [u_one, rr_u, if_neg, if_pos, if_true]
      rw [hy0 0 (by decide)]
    · by_cases d : w = 3
      · rw [d]
        simp (disch := omega) only [u_one, rr_u, if_neg, if_pos, if_true]
        rw [hy0 3 (by decide)]
      · simp (disch := omega) only [u_one, rr_u, if_neg, if_pos, if_true]
        exact hy0 w hw
  · obtain ⟨-, -, r6, r7, r8, r9, r10⟩ := id hk0
    have he := (hv.2.2.2.2.2.2.2.2.2 (tn o) hk).2.2
    refine rb_f hk0 he (fun j _ _ => by simp (disch := omega) only [u_one, rr_u, if_neg, if_pos, if_true]) (fun e _ => by simp (disch := omega) only [u_one, rr_u, if_neg, if_pos, if_true]) (fun w _ => by simp (disch := omega) only [u_one, rr_u, if_neg, if_pos, if_true]) ?_ ?_ ?_ ?_ ?_
    · simp (disch := omega) only [u_one, rr_u, if_neg, if_pos, if_true]
      exact r6
    · simp (disch := omega) only [u_one, rr_u, if_neg, if_pos, if_true]
      exact r7
    · simp (disch := omega) only [u_one, rr_u, if_neg, if_pos, if_true]
    · simp (disch := omega) only [u_one, rr_u, if_neg, if_pos, if_true]
      rw [b2, hny]
    · simp (disch := omega) only [u_one, rr_u, if_neg, if_pos, if_true]
      exact b3
theorem rl_back (h : rl a I (J (m + 1))) (hv : md_V (J (m + 1))) (h8 : 0 ≤ J (m + 1) 8) (h10 : J (m + 1) 10 = -1) : (K_closeBarrel a I).1 = false ∧ rl a (K_closeBarrel a I).2 (M_closeBarrel m J (m + 1)) := by
  have h6 := hv.2.1
  have h7 := hv.2.2.1.2
  have hk := rl_open (a := a) (I := I) hv h8
  have hn8 := nm1 h8
  have hq := mdV_q hv h8
  have h12 := hv.2.2.2.2.2.1
  have hi := tn_inc h12.1 (by omega)
  obtain ⟨⟨t1, t2, t3⟩, ⟨s1, s2, s3, s4, s5, s6⟩, ⟨c1, c2, c3⟩, ⟨b1, b2, b3, b4⟩, hY, hQ, hB⟩ := h
  have hk0 := hB _ hk
  have he := (hv.2.2.2.2.2.2.2.2.2 (tn (J (m + 1) 8)) hk).2.2
  generalize hE : J (m + 1) 8 = o at h8 hk hn8 b1 hk0 he
  have hob : tn o < 20 := by omega
  have hno : nI (tn o) = o := nI_tn h8
  have e1 : K_closeBarrel a I = (false, K_endBidding a (K_sendBack a (tn o) I)) := by
    simp only [K_closeBarrel, lt_eq, b1, b2, if_neg hn8, if_pos h10]
  rw [e1]
  refine ⟨rfl, ?_⟩
  have hr6 : I (a + 11 + 2 * tn o) 6 = J (m + 1) (66 + 15 * tn o + 11) := hk0.2.2.2.1
  have hlt : J (m + 1) 10 < 0 := by rw [h10]; decide
  by_cases c : J (m + 1) (66 + 15 * tn o + 11) + nI 1 = nI 3
  · have e2 : K_sendBack a (tn o) I = ow_u (ow_u I (a + 11 + 2 * tn o) 6 (J (m + 1) (66 + 15 * tn o + 11) + nI 1)) (a + 11 + 2 * tn o) 7 (nI 3) := by
      simp only [K_sendBack, lt_eq, u_one, if_true, hr6, if_pos c]
    have e3 : M_turnBack m (tn o) J = ow_u (ow_u J (m + 1) (66 + 15 * tn o + 11) (J (m + 1) (66 + 15 * tn o + 11) + nI 1)) (m + 1) (66 + 15 * tn o + 12) (nI 3) := by
      simp only [M_turnBack, M_putBarrel, M_ofBarrel, lt_eq, if_pos c]
    rw [e2]
    simp only [K_endBidding, M_closeBarrel, lt_eq, hE, if_pos hlt, e3]
    refine ⟨⟨?_, ?_, ?_⟩, ⟨?_, ?_, ?_, ?_, ?_, ?_⟩, ⟨?_, ?_, ?_⟩, ⟨?_, ?_, ?_, ?_⟩, rY_c hY h6.2.2 ?_ (fun j _ _ => ?_) (fun q _ _ => ?_), rQ_c hQ hv.2.2.2.2.2.1.2 ?_ (fun j _ _ => ?_) ?_, rB_1 (k0 := tn o) hB hv ?_ (fun j _ _ _ => ?_) (fun q _ _ _ _ => ?_) (fun _ => ?_)⟩
    all_goals (try (simp (disch := omega) only [u_one, rr_u, if_neg, if_pos, if_true]; done))
    all_goals (try (simp (disch := omega) only [u_one, rr_u, if_neg, if_pos, if_true]; assumption))
    · obtain ⟨-, -, r6, r7, r8, r9, r10⟩ := id hk0
      refine rb_f hk0 he (fun j _ _ => by simp (disch := omega) only [u_one, rr_u, if_neg, if_pos, if_true]) (fun e _ => by simp (disch := omega) only [u_one, rr_u, if_neg, if_pos, if_true]) (fun w _ => by simp (disch := omega) only [u_one, rr_u, if_neg, if_pos, if_true]) ?_ ?_ ?_ ?_ ?_
      all_goals (try (simp (disch := omega) only [u_one, rr_u, if_neg, if_pos, if_true]; done))
      all_goals (try (simp (disch := omega) only [u_one, rr_u, if_neg, if_pos, if_true]; assumption))
  · have e2 : K_sendBack a (tn o) I = ow_u (ow_u (ow_u (ow_u I (a + 11 + 2 * tn o) 6 (J (m + 1) (66 + 15 * tn o + 11) + nI 1)) (a + 11 + 2 * tn o) 7 (nI 0)) (a + 4) (tn (J (m + 1) 12)) o) a 12 (J (m + 1) 12 + nI 1) := by
      simp only [K_sendBack, lt_eq, u_one, if_true, hr6, if_neg c, K_enqueue]
      simp (disch := omega) only [u_one, rr_u, if_neg, if_pos, if_true]
      rw [c3, hno]
      simp (disch := omega) only [if_neg]
    have e3 : M_turnBack m (tn o) J = ow_u (ow_u (ow_u (ow_u J (m + 1) (66 + 15 * tn o + 11) (J (m + 1) (66 + 15 * tn o + 11) + nI 1)) (m + 1) (66 + 15 * tn o + 12) (nI 0)) (m + 1) (16 + tn (J (m + 1) 12)) o) (m + 1) 12 (J (m + 1) 12 + nI 1) := by
      simp only [M_turnBack, M_putBarrel, M_ofBarrel, lt_eq, if_neg c, M_enqueue]
      simp (disch := omega) only [u_one, rr_u, if_neg, if_pos, if_true]
      rw [hno]
    rw [e2]
    simp only [K_endBidding, M_closeBarrel, lt_eq, hE, if_pos hlt, e3]
    refine ⟨⟨?_, ?_, ?_⟩, ⟨?_, ?_, ?_, ?_, ?_, ?_⟩, ⟨?_, ?_, ?_⟩, ⟨?_, ?_, ?_, ?_⟩, rY_c hY h6.2.2 ?_ (fun j _ _ => ?_) (fun q _ _ => ?_), fun i hi9 => ?_, rB_1 (k0 := tn o) hB hv ?_ (fun j _ _ _ => ?_) (fun q _ _ _ _ => ?_) (fun _ => ?_)⟩
    all_goals (try (simp (disch := omega) only [u_one, rr_u, if_neg, if_pos, if_true]; done))
    all_goals (try (simp (disch := omega) only [u_one, rr_u, if_neg, if_pos, if_true]; assumption))
    · revert hi9
      simp (disch := omega) only [u_one, rr_u, if_neg, if_pos, if_true]
      rw [hi.2]
      intro hi9
      by_cases d : i = tn (J (m + 1) 12)
      · rw [d]
        simp (disch := omega) only [u_one, rr_u, if_neg, if_pos, if_true]
      · simp (disch := omega) only [u_one, rr_u, if_neg, if_pos, if_true]
        exact hQ i (by omega)
    · obtain ⟨-, -, r6, r7, r8, r9, r10⟩ := id hk0
      refine rb_f hk0 he (fun j _ _ => by simp (disch := omega) only [u_one, rr_u, if_neg, if_pos, if_true]) (fun e _ => by simp (disch := omega) only [u_one, rr_u, if_neg, if_pos, if_true]) (fun w _ => by simp (disch := omega) only [u_one, rr_u, if_neg, if_pos, if_true]) ?_ ?_ ?_ ?_ ?_
      all_goals (try (simp (disch := omega) only [u_one, rr_u, if_neg, if_pos, if_true]; done))
      all_goals (try (simp (disch := omega) only [u_one, rr_u, if_neg, if_pos, if_true]; assumption))
end RLC
