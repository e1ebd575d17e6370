/-! the queue's first barrel is opened; a minute passes -/
section RLF
variable {a m B : Nat} {I J : ow_I}
theorem q0_V (hv : md_V (J (m + 1))) (h0 : ¬ tn (J (m + 1) 12) = 0) : 0 ≤ J (m + 1) 16 ∧ tn (J (m + 1) 16) < tn (J (m + 1) 7) ∧ J (m + 1) (66 + 15 * tn (J (m + 1) 16) + 12) = 0 := hv.2.2.2.2.2.2.1 0 (by omega)
theorem rl_opn (h : rl a I (J (m + 1))) (hv : md_V (J (m + 1))) (h8 : J (m + 1) 8 = -1) : rl a (K_openFirst a I) (M_openFirst m J (m + 1)) := by
  have h6 := hv.2.1.2.2
  have h7 := hv.2.2.1.2
  have h12 := hv.2.2.2.2.2.1
  have h10 : J (m + 1) 10 = -1 := by
    rcases mV10 hv with q | q
    · exact q
    · rw [h8] at q
      exact absurd q.2.2 i_m1
  have hd := hv.2.2.2.2.2.2.2.1
  have e12 := h.2.2.1.2.2
  have hr := h
  unfold K_openFirst M_openFirst
  rw [e12]
  by_cases c : tn (J (m + 1) 12) = 0
  · rw [if_pos c, if_pos (by rw [← nI_tn h12.1, c]; decide)]
    exact h
  · have hq := q0_V hv c
    rw [if_neg c, if_neg (by rw [← nI_tn h12.1]; intro z; have := (nI_leI (b := 0) (by omega) (by decide)).mp z; omega)]
    have eq0 : I (a + 4) 0 = J (m + 1) 16 := h.2.2.2.2.2.1 0 (by omega)
    have he := (hv.2.2.2.2.2.2.2.2.2 _ hq.2.1).2.2
    have hko := h.2.2.2.2.2.2 _ hq.2.1
    have d := fun k => @dq_cells m (tn (J (m + 1) 16)) 0 J h12.1 h12.2 (by omega) (nI_tn hq.1).symm (fun j hj => by omega) k
    have n12 := nI_tn h12.1
    generalize hO : J (m + 1) 16 = o at *
    have hob : tn o < 20 := by omega
    have hno : nI (tn o) = o := nI_tn hq.1
    obtain ⟨⟨t1, t2, t3⟩, ⟨s1, s2, s3, s4, s5, s6⟩, ⟨c1, c2, c3⟩, ⟨b1, b2, b3, b4⟩, hY, hQ, hB⟩ := h
    simp only [lt_eq, eq0]
    generalize hI3 : ow_u (ow_u (ow_u I a 13 o) a 16 (nI 0)) (a + 11 + 2 * tn o) 7 (nI 1) = I3
    have f13 : I3 a 13 = o := by
      rw [← hI3]
      simp (disch := omega) only [u_one, rr_u, if_neg, if_pos, if_true]
    have g1 : ∀ j, I3 a j = if j = 16 then nI 0 else if j = 13 then o else I a j := fun j => by
      rw [← hI3]
      simp (disch := omega) only [u_one, rr_u, if_neg, if_pos, if_true]
    have g2 : ∀ b, b ≠ a → b ≠ a + 11 + 2 * tn o → I3 b = I b := fun b z1 z2 => by
      rw [← hI3]
      simp (disch := omega) only [u_one, rr_u, if_neg, if_pos, if_true]
    have g3 : ∀ j, I3 (a + 11 + 2 * tn o) j = if j = 7 then nI 1 else I (a + 11 + 2 * tn o) j := fun j => by
      rw [← hI3]
      simp (disch := omega) only [u_one, rr_u, if_neg, if_pos, if_true]
    have kd := @kdq a I3 o 0 (tn (J (m + 1) 12)) (by omega) h12.2 (by rw [← hI3]; simp (disch := omega) only [u_one, rr_u, if_neg, if_pos, if_true]; rw [c3, n12]) (by rw [← hI3]; simp (disch := omega) only [u_one, rr_u, if_neg, if_pos, if_true]; exact eq0) (fun j hj hne => by
      rw [← hI3]
      simp (disch := omega) only [u_one, rr_u, if_neg, if_pos, if_true]
      rw [hQ j hj]
      intro z
      have z2 : J (m + 1) (16 + j) = J (m + 1) (16 + 0) := by rw [z]; exact hO.symm
      exact hne (hd j 0 hj (by omega) z2))
    rw [f13]
    have kr : ∀ b, b ≠ a → b ≠ a + 4 → K_dequeue a o I3 b = I3 b := fun b g1 g2 => rr_deq g1 g2
    refine ⟨⟨?_, ?_, ?_⟩, ⟨?_, ?_, ?_, ?_, ?_, ?_⟩, ⟨?_, ?_, ?_⟩, ⟨?_, ?_, ?_, ?_⟩, rY_c hY h6 ?_ (fun j _ _ => ?_) (fun q _ _ => ?_), fun i hi => ?_, rB_1 (k0 := tn o) hB hv ?_ (fun j _ _ _ => ?_) (fun q _ _ _ _ => ?_) (fun _ => ?_)⟩
    rotate_left 19
    · revert hi
      simp (disch := omega) only [u_one, rr_u, if_neg, if_pos, if_true, M_putBarrel, lt_eq, d]
      intro hi
      rw [tn_nI (by omega)] at hi
      simp (disch := omega) only [if_pos, kd.2 i hi, if_neg]
      rw [← hI3]
      simp (disch := omega) only [u_one, rr_u, if_neg, if_pos, if_true]
      rw [hQ (i + 1) (by omega)]
      rfl
    all_goals (try (simp (disch := omega) only [u_one, rr_u, if_neg, if_pos, if_true, M_putBarrel, lt_eq, d, kd.1, kr, g1, g2, g3]; done))
    all_goals (try (simp (disch := omega) only [u_one, rr_u, if_neg, if_pos, if_true, M_putBarrel, lt_eq, d, kd.1, kr, g1, g2, g3]; assumption))
    · refine rb_f hko he (fun j _ _ => ?_) (fun e _ => ?_) (fun w _ => ?_) ?_ ?_ ?_ ?_ ?_
      all_goals (try (simp (disch := omega) only [u_one, rr_u, if_neg, if_pos, if_true, M_putBarrel, lt_eq, d, kd.1, kr, g1, g2, g3]; done))
      · simp (disch := omega) only [u_one, rr_u, if_neg, if_pos, if_true, M_putBarrel, lt_eq, d, kd.1, kr, g1, g2, g3]
        exact hko.2.2.1
      · simp (disch := omega) only [u_one, rr_u, if_neg, if_pos, if_true, M_putBarrel, lt_eq, d, kd.1, kr, g1, g2, g3]
        exact hko.2.2.2.1
      · simp (disch := omega) only [u_one, rr_u, if_neg, if_pos, if_true, M_putBarrel, lt_eq, d, kd.1, kr, g1, g2, g3]
        exact hko.2.2.2.2.2.1
      · simp (disch := omega) only [u_one, rr_u, if_neg, if_pos, if_true, M_putBarrel, lt_eq, d, kd.1, kr, g1, g2, g3]
        exact hko.2.2.2.2.2.2
    all_goals (simp (disch := omega) only [u_one, rr_u, if_neg, if_pos, if_true, M_putBarrel, lt_eq, d, kd.1, kr, g1, g2, g3])
    · exact hno.symm
    · rw [b2, h10]
    · rw [b3, if_pos h10]
    · rw [hno, if_neg (nm1 hq.1)]
theorem iv_opn (hv : md_V (J (m + 1))) (hi : iv B (J (m + 1))) (h8 : J (m + 1) 8 = -1) : iv B (M_openFirst m J (m + 1)) ∧ sdN (M_openFirst m J (m + 1)) (tn (M_openFirst m J (m + 1) 7)) = sdN (J (m + 1)) (tn (J (m + 1) 7)) := by
  have h6 := hv.2.1.2.2
  have h7 := hv.2.2.1.2
  have h12 := hv.2.2.2.2.2.1
  unfold M_openFirst
  by_cases c : tn (J (m + 1) 12) = 0
  · rw [if_pos c]
    exact ⟨hi, rfl⟩
  · have hq := q0_V hv c
    rw [if_neg c]
    have he := (hv.2.2.2.2.2.2.2.2.2 _ hq.2.1).2.2
    obtain ⟨hH, hY, hK, hO, hL, hS⟩ := hi
    have hko := hK _ hq.2.1
    have d := fun k => @dq_cells m (tn (J (m + 1) 16)) 0 J h12.1 h12.2 (by omega) (nI_tn hq.1).symm (fun j hj => by omega) k
    generalize hOO : J (m + 1) 16 = o at *
    have hob : tn o < 20 := by omega
    have hno : nI (tn o) = o := nI_tn hq.1
    simp only [lt_eq]
    generalize hJ' : ow_u (ow_u (ow_u (ow_u (M_putBarrel m (tn o) 12 (nI 1) (M_dequeue m (tn o) J)) (m + 1) 8 (nI (tn o))) (m + 1) 10 (-1)) (m + 1) 9 (nI 0)) (m + 1) 11 (nI 0) = J'
    have e : ∀ j, (j < 8 ∨ j = 13 ∨ (36 ≤ j ∧ j < 366)) → J' (m + 1) j = if j = 66 + 15 * tn o + 12 then nI 1 else J (m + 1) j := by
      intro j hj
      rw [← hJ']
      by_cases g : j = 66 + 15 * tn o + 12
      · rw [g]
        simp (disch := omega) only [u_one, rr_u, if_neg, if_pos, if_true, M_putBarrel, lt_eq, d]
      · simp (disch := omega) only [u_one, rr_u, if_neg, if_pos, if_true, M_putBarrel, lt_eq, d]
    have e8 : J' (m + 1) 8 = o := by
      rw [← hJ']
      simp (disch := omega) only [u_one, rr_u, if_neg, if_pos, if_true, hno]
    have e10 : J' (m + 1) 10 = -1 := by
      rw [← hJ']
      simp (disch := omega) only [u_one, rr_u, if_neg, if_pos, if_true]
    have e11 : J' (m + 1) 11 = nI 0 := by
      rw [← hJ']
      simp (disch := omega) only [u_one, rr_u, if_neg, if_pos, if_true]
    have e7 : J' (m + 1) 7 = J (m + 1) 7 := by rw [e _ (by omega), if_neg (by omega)]
    have hs2 : ∀ k, k < 20 → (J' (m + 1) (66 + 15 * k + 12) = nI 2 ↔ J (m + 1) (66 + 15 * k + 12) = nI 2) := by
      intro k hk
      rw [e _ (by omega)]
      by_cases g : k = tn o
      · rw [g, if_pos rfl, hq.2.2]
        exact ⟨fun z => absurd z (by decide), fun z => absurd z (by decide)⟩
      · rw [if_neg (by omega)]
    refine ⟨⟨iH_c hH (fun j _ => by rw [e _ (by omega), if_neg (by omega)]), iY_c hY h6 (by rw [e _ (by omega), if_neg (by omega)]) (fun i _ => by rw [e _ (by omega), if_neg (by omega)]), iK_1 (k0 := tn o) hK hv e7 (fun j _ _ _ => by rw [e _ (by omega), if_neg (by omega)]) (fun _ => ?_), fun _ => ⟨?_, 0, e11, ?_⟩, iL_n e10, iS_c hS h7 (by rw [e _ (by omega), if_neg (by omega)]) e7 hs2⟩, ?_⟩
    · refine iB_f hko he (fun w _ => ?_) ⟨1, ?_, by decide⟩ (fun z => ?_)
      · show J' (m + 1) (66 + 15 * tn o + w) = J (m + 1) (66 + 15 * tn o + w)
        rw [e _ (by omega), if_neg (by omega)]
      · show J' (m + 1) (66 + 15 * tn o + 12) = nI 1
        rw [e _ (by omega), if_pos rfl]
      · have z : J' (m + 1) (66 + 15 * tn o + 12) = nI 2 := z
        rw [e _ (by omega), if_pos rfl] at z
        exact absurd z (by decide)
    · rw [e8, e _ (by omega), if_pos rfl]
    · rw [e _ (by omega), if_neg (by omega)]
      obtain ⟨p, ep, p1, p9⟩ := hH.2.1
      rw [ep, tn_nI (by omega)]
      omega
    · rw [e7, sdN_c _ (fun k hk => hs2 k (by omega))]
end RLF
