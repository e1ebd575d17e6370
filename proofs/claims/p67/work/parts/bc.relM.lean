/-! the other acts on a market -/
section RLM
variable {a m B b : Nat} {I J : ow_I}
theorem wt0 {b : Nat} (h : M_isWaiting m b J = true) : J (m + 1) (66 + 15 * b + 12) = 0 := by
  unfold M_isWaiting at h
  by_cases c : M_ofBarrel m b 12 J = 0
  · exact c
  · rw [if_neg c] at h
    exact absurd h (by decide)
theorem st_wdr (h : st a m B I J) (hb : b < tn (J (m + 1) 7)) (hw : M_isWaiting m b J = true) : st a m B (K_takeAway a (nI b) I) (M_withdrawNow m b J).2 ∧ K_takeAway a (nI b) I a 12 = (M_withdrawNow m b J).1 := by
  obtain ⟨hr, hv, hi⟩ := h
  have h6 := hv.2.1.2.2
  have h7 := hv.2.2.1.2
  have h12 := hv.2.2.2.2.2.1
  obtain ⟨p, hp, hpb⟩ := V_wait hv hb hw
  have hs0 := wt0 hw
  have hd := hv.2.2.2.2.2.2.2.1
  have hne : ∀ j, j < tn (J (m + 1) 12) → j ≠ p → ¬ J (m + 1) (16 + j) = nI b := fun j hj hjp z => hjp (hd j p hj hp (z.trans hpb.symm))
  have hK : K_isWaiting a (nI b) I = true := by
    have hB : M_isBarrel m (nI b) J = true := by
      unfold M_isBarrel
      have q := nI_lt_of hv.2.2.1.1 hb (by omega)
      rw [if_neg (i_ge q.1), if_neg (fun z => by rw [Int32.le_iff_toInt_le] at z; have := (Int32.lt_iff_toInt_lt).mp q.2; omega)]
    rw [wait_eq hr hv hB, tn_nI (by omega)]
    exact hw
  have hVw := V_withdraw (m := m) (b := b) (p := p) (I := J) hv (by omega) hp hpb
  have d := fun k => @dq_cells m b p J h12.1 h12.2 hp hpb (fun j hj => hne j (by omega) (by omega)) k
  have e12 := hr.2.2.1.2.2
  have n12 := nI_tn h12.1
  have he := (hv.2.2.2.2.2.2.2.2.2 b hb).2.2
  have hko := hr.2.2.2.2.2.2 b hb
  have hQQ := hr.2.2.2.2.2.1
  have kd := @kdq a (ow_u I (a + 11 + 2 * b) 7 (nI 3)) (nI b) p (tn (J (m + 1) 12)) hp h12.2 (by rw [rr_u (by omega), e12, n12]) (by rw [rr_u (by omega), hQQ p hp, hpb]) (fun j hj hjp => by rw [rr_u (by omega), hQQ j hj]; exact hne j hj hjp)
  have kr : ∀ q, q ≠ a → q ≠ a + 4 → K_dequeue a (nI b) (ow_u I (a + 11 + 2 * b) 7 (nI 3)) q = ow_u I (a + 11 + 2 * b) 7 (nI 3) q := fun q g1 g2 => rr_deq g1 g2
  obtain ⟨⟨t1, t2, t3⟩, ⟨s1, s2, s3, s4, s5, s6⟩, ⟨c1, c2, c3⟩, ⟨b1, b2, b3, b4⟩, hY, hQ, hB⟩ := hr
  have eK : K_takeAway a (nI b) I = K_dequeue a (nI b) (ow_u I (a + 11 + 2 * b) 7 (nI 3)) := by
    simp only [K_takeAway, if_pos hK, lt_eq, tn_nI (show b < 2 ^ 31 by omega)]
  have eM : M_withdrawNow m b J = (nI (tn (J (m + 1) 12) - 1), M_putBarrel m b 12 (nI 3) (M_dequeue m b J)) := by
    simp only [M_withdrawNow, lt_eq]
    refine Prod.ext ?_ rfl
    simp (disch := omega) only [u_one, rr_u, if_neg, if_pos, if_true, M_putBarrel, lt_eq, d, kd.1, kr]
  rw [eM] at hVw
  rw [eK, eM]
  refine ⟨⟨⟨⟨?_, ?_, ?_⟩, ⟨?_, ?_, ?_, ?_, ?_, ?_⟩, ⟨?_, ?_, ?_⟩, ⟨?_, ?_, ?_, ?_⟩, rY_c hY h6 ?_ (fun j _ _ => ?_) (fun q _ _ => ?_), fun i hi => ?_, rB_1 (k0 := b) hB hv ?_ (fun j _ _ _ => ?_) (fun q _ _ _ _ => ?_) (fun _ => ?_)⟩, hVw, ?_⟩, ?_⟩
  rotate_left 19
  · revert hi
    simp (disch := omega) only [u_one, rr_u, if_neg, if_pos, if_true, M_putBarrel, lt_eq, d, kd.1, kr]
    intro hi
    rw [tn_nI (by omega)] at hi
    have z0 : ¬ 16 + i = 66 + 15 * b + 12 := by omega
    rw [if_neg z0]
    simp (disch := omega) only [kd.2 i hi, rr_u]
    by_cases g : i < p
    · rw [if_pos g, if_neg (show ¬ (16 + p ≤ 16 + i ∧ 16 + i < 16 + (tn (J (m + 1) 12) - 1)) by omega)]
      exact hQ i (by omega)
    · rw [if_neg g, if_pos (show 16 + p ≤ 16 + i ∧ 16 + i < 16 + (tn (J (m + 1) 12) - 1) by omega)]
      exact hQ (i + 1) (by omega)
  all_goals (try (simp (disch := omega) only [u_one, rr_u, if_neg, if_pos, if_true, M_putBarrel, lt_eq, d, kd.1, kr]; done))
  all_goals (try (simp (disch := omega) only [u_one, rr_u, if_neg, if_pos, if_true, M_putBarrel, lt_eq, d, kd.1, kr]; assumption))
  · refine rb_f hko he (fun j _ _ => ?_) (fun e _ => ?_) (fun w _ => ?_) ?_ ?_ ?_ ?_ ?_
    all_goals (try (simp (disch := omega) only [u_one, rr_u, if_neg, if_pos, if_true, M_putBarrel, lt_eq, d, kd.1, kr]; done))
    · simp (disch := omega) only [u_one, rr_u, if_neg, if_pos, if_true, M_putBarrel, lt_eq, d, kd.1, kr]
      exact hko.2.2.1
    · simp (disch := omega) only [u_one, rr_u, if_neg, if_pos, if_true, M_putBarrel, lt_eq, d, kd.1, kr]
      exact hko.2.2.2.1
    · simp (disch := omega) only [u_one, rr_u, if_neg, if_pos, if_true, M_putBarrel, lt_eq, d, kd.1, kr]
      exact hko.2.2.2.2.2.1
    · simp (disch := omega) only [u_one, rr_u, if_neg, if_pos, if_true, M_putBarrel, lt_eq, d, kd.1, kr]
      exact hko.2.2.2.2.2.2
  · obtain ⟨hH, hY2, hK2, hO, hL, hS⟩ := hi
    have m8 := mV8 hv
    have m10 := mV10 hv
    have e : ∀ j, (j < 12 ∨ j = 13 ∨ (36 ≤ j ∧ j < 366)) → M_putBarrel m b 12 (nI 3) (M_dequeue m b J) (m + 1) j = if j = 66 + 15 * b + 12 then nI 3 else J (m + 1) j := by
      intro j hj
      by_cases g : j = 66 + 15 * b + 12
      · rw [g]
        simp (disch := omega) only [u_one, rr_u, if_neg, if_pos, if_true, M_putBarrel, lt_eq, d, kd.1, kr]
      · simp (disch := omega) only [u_one, rr_u, if_neg, if_pos, if_true, M_putBarrel, lt_eq, d, kd.1, kr]
    show iv B (M_putBarrel m b 12 (nI 3) (M_dequeue m b J) (m + 1))
    generalize M_putBarrel m b 12 (nI 3) (M_dequeue m b J) (m + 1) = g at e ⊢
    refine ⟨iH_c hH (fun j _ => by rw [e _ (by omega), if_neg (by omega)]), iY_c hY2 h6 (by rw [e _ (by omega), if_neg (by omega)]) (fun i _ => by rw [e _ (by omega), if_neg (by omega)]), iK_1 (k0 := b) hK2 hv (by rw [e _ (by omega), if_neg (by omega)]) (fun j _ _ _ => by rw [e _ (by omega), if_neg (by omega)]) (fun _ => ?_), fun z => ?_, fun z => ?_, iS_c hS h7 (by rw [e _ (by omega), if_neg (by omega)]) (by rw [e _ (by omega), if_neg (by omega)]) (fun k hk => ?_)⟩
    · refine iB_f (hK2 b hb) he (fun w _ => ?_) ⟨3, ?_, by decide⟩ (fun z => ?_)
      · show g (66 + 15 * b + w) = J (m + 1) (66 + 15 * b + w)
        rw [e _ (by omega), if_neg (by omega)]
      · show g (66 + 15 * b + 12) = nI 3
        rw [e _ (by omega), if_pos rfl]
      · have z : g (66 + 15 * b + 12) = nI 2 := z
        rw [e _ (by omega), if_pos rfl] at z
        exact absurd z (by decide)
    · rw [e 8 (by omega), if_neg (by omega)] at z ⊢
      have hko2 := rl_open (a := 0) (I := J) hv z
      have ho := hO z
      rw [e 11 (by omega), if_neg (by omega), e 2 (by omega), if_neg (by omega), e _ (by omega)]
      by_cases g : tn (J (m + 1) 8) = b
      · rw [g, hs0] at ho
        exact absurd ho.1 (by decide)
      · rw [if_neg (by omega)]
        exact ho
    · rw [e 10 (by omega), if_neg (by omega)] at z ⊢
      have hl2 := rl_lead hv z
      rw [e 9 (by omega), if_neg (by omega), e 4 (by omega), if_neg (by omega), e _ (by omega), if_neg (by omega)]
      exact hL z
    · rw [e _ (by omega)]
      by_cases g : k = b
      · rw [g, if_pos rfl, hs0]
        exact ⟨fun z => absurd z (by decide), fun z => absurd z (by decide)⟩
      · rw [if_neg (by omega)]
theorem min_eq {x y : Int32} : i_min x y = if y ≤ x then y else x := by
  unfold i_min
  by_cases c : y < x
  · rw [if_pos c, if_pos (by rw [Int32.le_iff_toInt_le]; rw [Int32.lt_iff_toInt_lt] at c; omega)]
  · rw [if_neg c]
    by_cases d : y ≤ x
    · rw [if_pos d]
      have : x ≤ y := i_nlt c
      exact Int32.le_antisymm this d
    · rw [if_neg d]
theorem st_fund {x : Int32} (h : st a m B I J) (hb : b < tn (J (m + 1) 6)) (hx : ∃ c : Nat, x = nI c ∧ c ≤ 9999) : st a m B (K_putCoins a (nI b) x I) (M_fundNow m b x J).2 ∧ K_putCoins a (nI b) x I (a + 5 + b) 0 = (M_fundNow m b x J).1 := by
  obtain ⟨hr, hv, hi⟩ := h
  have h6 := hv.2.1.2.2
  have h7 := hv.2.2.1.2
  have hbb : K_hasBuyer a (nI b) I = true := (hb_eq hr).mpr (nI_lt_of hv.2.1.1 hb (by omega))
  have hVf := V_fund (m := m) (b := b) (x := x) (I := J) hv (by omega)
  obtain ⟨pu, epu, hpu⟩ := hi.2.1 b hb
  obtain ⟨c, ec, hc⟩ := hx
  have m8 := mV8 hv
  obtain ⟨⟨t1, t2, t3⟩, ⟨s1, s2, s3, s4, s5, s6⟩, ⟨c1, c2, c3⟩, ⟨b1, b2, b3, b4⟩, hY, hQ, hB⟩ := hr
  have ep : I (a + 5 + b) 0 = J (m + 1) (36 + 5 * b + 0) := hY b hb 0 (by decide)
  have ep2 : J (m + 1) (36 + 5 * b + 0) = nI pu := epu
  -- what is added
  obtain ⟨ad, ead, had⟩ : ∃ ad : Nat, (if nI 99999 - nI pu ≤ x then nI 99999 - nI pu else x) = nI ad ∧ pu + ad ≤ 99999 := by
    rw [nI_sb hpu, ec]
    by_cases g : nI (99999 - pu) ≤ nI c
    · rw [if_pos g]
      exact ⟨_, rfl, by omega⟩
    · rw [if_neg g]
      refine ⟨c, rfl, ?_⟩
      have : ¬ 99999 - pu ≤ c := fun z => g ((nI_leI (by omega) (by omega)).mpr z)
      omega
  have eM : M_fundNow m b x J = (ow_u (ow_u J (m + 1) (36 + 5 * b + 0) (nI pu + nI ad)) (m + 1) 15 (J (m + 1) 15 + nI ad) (m + 1) (36 + 5 * b + 0), ow_u (ow_u J (m + 1) (36 + 5 * b + 0) (nI pu + nI ad)) (m + 1) 15 (J (m + 1) 15 + nI ad)) := by
    have e15 : ow_u J (m + 1) (36 + 5 * b + 0) (nI pu + nI ad) (m + 1) 15 = J (m + 1) 15 := by simp (disch := omega) only [u_one, rr_u, if_neg, if_pos, if_true]
    simp only [M_fundNow, M_put, M_of, lt_eq, ep2]
    by_cases g : nI 99999 - nI pu ≤ x
    · rw [if_pos g] at ead ⊢
      rw [ead, e15]
    · rw [if_neg g] at ead ⊢
      rw [ead, e15]
  have eK : K_putCoins a (nI b) x I = ow_u (ow_u I (a + 5 + b) 0 (nI pu + nI ad)) a 6 (I a 6 + nI ad) := by
    have e6 : ow_u I (a + 5 + b) 0 (nI pu + nI ad) a 6 = I a 6 := by simp (disch := omega) only [u_one, rr_u, if_neg, if_pos, if_true]
    simp only [K_putCoins, if_pos hbb, lt_eq, tn_nI (show b < 2 ^ 31 by omega), min_eq, ep, ep2, ead, e6]
  rw [eM] at hVf
  rw [eM, eK]
  refine ⟨⟨⟨⟨?_, ?_, ?_⟩, ⟨?_, ?_, ?_, ?_, ?_, ?_⟩, ⟨?_, ?_, ?_⟩, ⟨?_, ?_, ?_, ?_⟩, rY_1 (i0 := b) hY h6 ?_ (fun j _ _ _ => ?_) (fun q _ _ _ => ?_) (fun _ w hw => ?_), rQ_c hQ hv.2.2.2.2.2.1.2 ?_ (fun j _ _ => ?_) ?_, rB_c hB hv ?_ (fun j _ _ => ?_) (fun q _ _ => ?_)⟩, hVf, ?_⟩, ?_⟩
  all_goals (try (simp (disch := omega) only [u_one, rr_u, if_neg, if_pos, if_true]; done))
  all_goals (try (simp (disch := omega) only [u_one, rr_u, if_neg, if_pos, if_true]; assumption))
  · simp (disch := omega) only [u_one, rr_u, if_neg, if_pos, if_true]
    rw [s6]
  · by_cases g : w = 0
    · rw [g]
      simp (disch := omega) only [u_one, rr_u, if_neg, if_pos, if_true]
    · simp (disch := omega) only [u_one, rr_u, if_neg, if_pos, if_true]
      exact hY b hb w hw
  · obtain ⟨hH, hY2, hK2, hO, hL, hS⟩ := hi
    have e : ∀ j, j ≠ 15 → ow_u (ow_u J (m + 1) (36 + 5 * b + 0) (nI pu + nI ad)) (m + 1) 15 (J (m + 1) 15 + nI ad) (m + 1) j = if j = 36 + 5 * b then nI (pu + ad) else J (m + 1) j := by
      intro j hj
      rw [nI_add]
      by_cases g : j = 36 + 5 * b
      · rw [g]
        simp (disch := omega) only [u_one, rr_u, if_neg, if_pos, if_true]
      · simp (disch := omega) only [u_one, rr_u, if_neg, if_pos, if_true]
    dsimp only
    generalize ow_u (ow_u J (m + 1) (36 + 5 * b + 0) (nI pu + nI ad)) (m + 1) 15 (J (m + 1) 15 + nI ad) (m + 1) = g at e
    refine ⟨iH_c hH (fun j _ => by rw [e _ (by omega), if_neg (by omega)]), fun i hi2 => ?_, iK_c hK2 hv (by rw [e _ (by omega), if_neg (by omega)]) (fun j _ _ => by rw [e _ (by omega), if_neg (by omega)]), fun z => ?_, fun z => ?_, iS_c hS h7 (by rw [e _ (by omega), if_neg (by omega)]) (by rw [e _ (by omega), if_neg (by omega)]) (fun k hk => by rw [e _ (by omega), if_neg (by omega)])⟩
    · rw [e 6 (by omega), if_neg (by omega)] at hi2
      rw [e _ (by omega)]
      by_cases k : i = b
      · rw [if_pos (by omega)]
        exact ⟨pu + ad, rfl, had⟩
      · rw [if_neg (by omega)]
        exact hY2 i hi2
    · rw [e 8 (by omega), if_neg (by omega)] at z ⊢
      rw [e 11 (by omega), if_neg (by omega), e 2 (by omega), if_neg (by omega), e _ (by omega), if_neg (by omega)]
      exact hO z
    · rw [e 10 (by omega), if_neg (by omega)] at z ⊢
      obtain ⟨c9, e9, hle⟩ := hL z
      rw [e 9 (by omega), if_neg (by omega), e 4 (by omega), if_neg (by omega), e _ (by omega)]
      refine ⟨c9, e9, ?_⟩
      by_cases k : tn (J (m + 1) 10) = b
      · rw [if_pos (by omega), tn_nI (by omega)]
        rw [k, epu, tn_nI (by omega)] at hle
        omega
      · rw [if_neg (by omega)]
        exact hle
theorem st_res {x : Int32} (h : st a m B I J) (hb : b < tn (J (m + 1) 7)) (hx : ∃ c : Nat, x = nI c ∧ 1 ≤ c ∧ c ≤ 999) : st a m B (ow_u I (a + 11 + 2 * b) 5 x) (M_putBarrel m b 10 x J) := by
  obtain ⟨hr, hv, hi⟩ := h
  have h6 := hv.2.1.2.2
  have h7 := hv.2.2.1.2
  have he := (hv.2.2.2.2.2.2.2.2.2 b hb)
  have hko := hr.2.2.2.2.2.2 b hb
  obtain ⟨⟨t1, t2, t3⟩, ⟨s1, s2, s3, s4, s5, s6⟩, ⟨c1, c2, c3⟩, ⟨b1, b2, b3, b4⟩, hY, hQ, hB⟩ := hr
  have e : ∀ j, M_putBarrel m b 10 x J (m + 1) j = if j = 66 + 15 * b + 10 then x else if j = 66 + 15 * b then nI (tn (J (m + 1) (66 + 15 * b))) else J (m + 1) j := by
    intro j
    simp only [M_putBarrel, lt_eq]
    rw [u_one]
    by_cases g : j = 66 + 15 * b + 10
    · rw [if_pos g, if_pos g]
    · rw [if_neg g, if_neg g]
      by_cases k : j = 66 + 15 * b
      · rw [if_pos k, k, nI_tn he.1]
      · rw [if_neg k]
  refine ⟨⟨⟨?_, ?_, ?_⟩, ⟨?_, ?_, ?_, ?_, ?_, ?_⟩, ⟨?_, ?_, ?_⟩, ⟨?_, ?_, ?_, ?_⟩, rY_c hY h6 ?_ (fun j _ _ => ?_) (fun q _ _ => ?_), rQ_c hQ hv.2.2.2.2.2.1.2 ?_ (fun j _ _ => ?_) ?_, rB_1 (k0 := b) hB hv ?_ (fun j _ _ _ => ?_) (fun q _ _ _ _ => ?_) (fun _ => ?_)⟩, V_cut (b := b) (x := x) (y := tn (J (m + 1) (66 + 15 * b))) hv (by omega) he.2.1 he.2.2 (fun k => by rw [e k, show 76 + 15 * b = 66 + 15 * b + 10 by omega]), iv_keep (b := b) (T := tn (J (m + 1) (66 + 15 * b))) hi hv hb (Nat.le_refl _) hx e⟩
  all_goals (try (simp (disch := omega) only [M_putBarrel, lt_eq, u_one, rr_u, if_neg, if_pos, if_true]; done))
  all_goals (try (simp (disch := omega) only [M_putBarrel, lt_eq, u_one, rr_u, if_neg, if_pos, if_true]; assumption))
  · refine rb_f hko he.2.2 (fun j _ _ => ?_) (fun e _ => ?_) (fun w _ => ?_) ?_ ?_ ?_ ?_ ?_
    all_goals (try (simp (disch := omega) only [M_putBarrel, lt_eq, u_one, rr_u, if_neg, if_pos, if_true]; done))
    · simp (disch := omega) only [M_putBarrel, lt_eq, u_one, rr_u, if_neg, if_pos, if_true]
      exact hko.2.2.2.1
    · simp (disch := omega) only [M_putBarrel, lt_eq, u_one, rr_u, if_neg, if_pos, if_true]
      exact hko.2.2.2.2.1
    · simp (disch := omega) only [M_putBarrel, lt_eq, u_one, rr_u, if_neg, if_pos, if_true]
      exact hko.2.2.2.2.2.1
    · simp (disch := omega) only [M_putBarrel, lt_eq, u_one, rr_u, if_neg, if_pos, if_true]
      exact hko.2.2.2.2.2.2
theorem st_stp {x : Int32} (h : st a m B I J) (hx : ∃ c : Nat, x = nI c ∧ 1 ≤ c ∧ c ≤ 50) : st a m B (ow_u I a 2 x) (ow_u J (m + 1) 3 x) := by
  obtain ⟨hr, hv, hi⟩ := h
  have h6 := hv.2.1.2.2
  have h7 := hv.2.2.1.2
  obtain ⟨⟨t1, t2, t3⟩, ⟨s1, s2, s3, s4, s5, s6⟩, ⟨c1, c2, c3⟩, ⟨b1, b2, b3, b4⟩, hY, hQ, hB⟩ := hr
  refine ⟨⟨⟨?_, ?_, ?_⟩, ⟨?_, ?_, ?_, ?_, ?_, ?_⟩, ⟨?_, ?_, ?_⟩, ⟨?_, ?_, ?_, ?_⟩, rY_c hY h6 ?_ (fun j _ _ => ?_) (fun q _ _ => ?_), rQ_c hQ hv.2.2.2.2.2.1.2 ?_ (fun j _ _ => ?_) ?_, rB_c hB hv ?_ (fun j _ _ => ?_) (fun q _ _ => ?_)⟩, V_row hv x (Or.inr (Or.inr rfl)), ?_⟩
  all_goals (try (simp (disch := omega) only [u_one, rr_u, if_neg, if_pos, if_true]; done))
  all_goals (try (simp (disch := omega) only [u_one, rr_u, if_neg, if_pos, if_true]; assumption))
  · obtain ⟨⟨H1, H2, H3, H4, H5⟩, hY2, hK2, hO, hL, hS⟩ := hi
    have e : ∀ j, j ≠ 3 → ow_u J (m + 1) 3 x (m + 1) j = J (m + 1) j := fun j hj => by rw [u_one, if_neg hj]
    have e3 : ow_u J (m + 1) 3 x (m + 1) 3 = x := ow_u_s _ _ _ _
    generalize ow_u J (m + 1) 3 x (m + 1) = g at e e3
    refine ⟨⟨?_, ?_, ?_, ?_, ?_⟩, iY_c hY2 h6 (e 6 (by omega)) (fun i _ => e _ (by omega)), iK_c hK2 hv (e 7 (by omega)) (fun j _ _ => e j (by omega)), fun z => ?_, fun z => ?_, iS_c hS h7 (e 13 (by omega)) (e 7 (by omega)) (fun k hk => by rw [e _ (by omega)])⟩
    · rw [e 0 (by omega), e 1 (by omega)]; exact H1
    · rw [e 2 (by omega)]; exact H2
    · rw [e3]; exact hx
    · rw [e 4 (by omega)]; exact H4
    · rw [e 5 (by omega)]; exact H5
    · rw [e 8 (by omega)] at z ⊢
      rw [e 11 (by omega), e 2 (by omega), e _ (by omega)]
      exact hO z
    · rw [e 10 (by omega)] at z ⊢
      rw [e 9 (by omega), e 4 (by omega), e _ (by omega)]
      exact hL z
theorem st_tst {x y : Int32} (h : st a m B I J) (hb : b < tn (J (m + 1) 6)) : st a m B (ow_u (ow_u I (a + 5 + b) 1 x) (a + 5 + b) 2 y) (M_put m b 2 y (M_put m b 1 x J)) := by
  obtain ⟨hr, hv, hi⟩ := h
  have h6 := hv.2.1.2.2
  have h7 := hv.2.2.1.2
  obtain ⟨⟨t1, t2, t3⟩, ⟨s1, s2, s3, s4, s5, s6⟩, ⟨c1, c2, c3⟩, ⟨b1, b2, b3, b4⟩, hY, hQ, hB⟩ := hr
  have e : ∀ j, j ≠ 36 + 5 * b + 1 → j ≠ 36 + 5 * b + 2 → M_put m b 2 y (M_put m b 1 x J) (m + 1) j = J (m + 1) j := fun j g1 g2 => by
    simp (disch := omega) only [M_put, lt_eq, u_one, if_neg]
  have eV : md_V (M_put m b 2 y (M_put m b 1 x J) (m + 1)) := by
    have hv2 := hv
    rw [md_V_eq] at hv2 ⊢
    rw [e 0 (by omega) (by omega), e 6 (by omega) (by omega), e 7 (by omega) (by omega), e 8 (by omega) (by omega), e 10 (by omega) (by omega), e 12 (by omega) (by omega)]
    exact VV_congr hv2 (fun i hi => e _ (by omega) (by omega)) (fun i hi => e _ (by omega) (by omega)) (fun i hi => e _ (by omega) (by omega))
  refine ⟨⟨⟨?_, ?_, ?_⟩, ⟨?_, ?_, ?_, ?_, ?_, ?_⟩, ⟨?_, ?_, ?_⟩, ⟨?_, ?_, ?_, ?_⟩, rY_1 (i0 := b) hY h6 ?_ (fun j _ _ _ => ?_) (fun q _ _ _ => ?_) (fun _ w hw => ?_), rQ_c hQ hv.2.2.2.2.2.1.2 ?_ (fun j _ _ => ?_) ?_, rB_c hB hv ?_ (fun j _ _ => ?_) (fun q _ _ => ?_)⟩, eV, ?_⟩
  all_goals (try (simp (disch := omega) only [rr_u, e]; done))
  all_goals (try (simp (disch := omega) only [rr_u, e]; assumption))
  · simp only [M_put, lt_eq]
    obtain g | g | g : w = 1 ∨ w = 2 ∨ (w ≠ 1 ∧ w ≠ 2) := by omega
    · rw [g]
      simp (disch := omega) only [u_one, rr_u, if_neg, if_pos, if_true]
    · rw [g]
      simp (disch := omega) only [u_one, rr_u, if_neg, if_pos, if_true]
    · simp (disch := omega) only [u_one, rr_u, if_neg, if_pos, if_true]
      exact hY b hb w hw
  · obtain ⟨hH, hY2, hK2, hO, hL, hS⟩ := hi
    have m8 := mV8 hv
    generalize M_put m b 2 y (M_put m b 1 x J) (m + 1) = g at e
    refine ⟨iH_c hH (fun j _ => e j (by omega) (by omega)), iY_c hY2 h6 (e 6 (by omega) (by omega)) (fun i _ => e _ (by omega) (by omega)), iK_c hK2 hv (e 7 (by omega) (by omega)) (fun j _ _ => e j (by omega) (by omega)), fun z => ?_, fun z => ?_, iS_c hS h7 (e 13 (by omega) (by omega)) (e 7 (by omega) (by omega)) (fun k hk => by rw [e _ (by omega) (by omega)])⟩
    · rw [e 8 (by omega) (by omega)] at z ⊢
      rw [e 11 (by omega) (by omega), e 2 (by omega) (by omega), e _ (by omega) (by omega)]
      exact hO z
    · rw [e 10 (by omega) (by omega)] at z ⊢
      rw [e 9 (by omega) (by omega), e 4 (by omega) (by omega), e _ (by omega) (by omega)]
      exact hL z
end RLM
