/-! a minute passes: both answer alike -/
section RLG
variable {a m B : Nat} {I J : ow_I}
theorem opn_N {p l n : Nat} (h0 : J (m + 1) 0 = nI p) (h1 : J (m + 1) 1 = nI l) (hp : 5 ≤ p ∧ p ≤ 60) (hl : l ≤ p) (hn : n < 2 ^ 31) : M_isOpenIn m (nI n) J = decide (n % p < l) := by
  unfold M_isOpenIn
  have hm := Nat.mod_lt n (show 0 < p by omega)
  rw [h0, h1, pk_rem hn (by omega) (by omega)]
  by_cases c : n % p < l
  · rw [if_neg (fun z => by have := (nI_leI (by omega) (by omega)).mp z; omega), decide_eq_true c]
  · rw [if_pos ((nI_leI (by omega) (by omega)).mpr (by omega)), decide_eq_false c]
theorem mod_pred {n p r : Nat} (hn : 1 ≤ n) (hp : 0 < p) (h : n % p = r) (hr : 1 ≤ r) : (n - 1) % p = r - 1 := by
  have h1 := Nat.div_add_mod n p
  have h2 := Nat.mod_lt n hp
  have e : n - 1 = (r - 1) + p * (n / p) := by omega
  rw [e, Nat.add_mul_mod_self_left, Nat.mod_eq_of_lt (by omega)]
theorem blow_N {p l n : Nat} (h0 : J (m + 1) 0 = nI p) (h1 : J (m + 1) 1 = nI l) (hp : 5 ≤ p ∧ p ≤ 60) (hl : 1 ≤ l ∧ l ≤ p) (hn : 1 ≤ n ∧ n < 2 ^ 31) : M_blowsIn m (nI n) J = decide (n % p = l) := by
  unfold M_blowsIn
  have hm := Nat.mod_lt n (show 0 < p by omega)
  rw [show nI 1 = nI 1 from rfl, nI_sb hn.1, opn_N h0 h1 hp hl.2 hn.2, opn_N h0 h1 hp hl.2 (by omega)]
  by_cases c : n % p < l
  · rw [decide_eq_true c, if_pos rfl, decide_eq_false (by omega)]
  · rw [decide_eq_false c, if_neg (by decide), mod_pred hn.1 (by omega) rfl (by omega)]
    by_cases d : n % p = l
    · rw [decide_eq_true d, decide_eq_true (show n % p - 1 < l by omega), if_pos rfl]
    · rw [decide_eq_false d, decide_eq_false (show ¬ n % p - 1 < l by omega), if_neg (by decide)]
theorem horn_N {t p l n : Nat} (h0 : I t 0 = nI p) (h1 : I t 1 = nI l) (h2 : I t 2 = nI n) (hp : 5 ≤ p ∧ p ≤ 60) (hl : l ≤ p) (hn : n < 2 ^ 31) : T_hornBlows t I = decide (n % p = l) := by
  unfold T_hornBlows
  have hm := Nat.mod_lt n (show 0 < p by omega)
  rw [h0, h1, h2, if_neg (fun z => by have := (nI_leI (b := 0) (by omega) (by decide)).mp z; omega), pk_rem hn (by omega) (by omega)]
  by_cases c : n % p = l
  · rw [if_pos (by rw [c]), decide_eq_true c]
  · rw [if_neg (fun z => c ((nI_eq (by omega) (by omega)).mp z)), decide_eq_false c]
theorem th_or (hv : md_V (J (m + 1))) : M_thinker m J = -1 ∨ (0 ≤ M_thinker m J ∧ tn (M_thinker m J) < tn (J (m + 1) 6) ∧ 0 ≤ J (m + 1) 8 ∧ M_reasonAgainst m (tn (M_thinker m J)) J = 0) := by
  unfold M_thinker
  by_cases c : 0 ≤ J (m + 1) 8
  · rw [if_pos c]
    have L : ∀ (n i : Nat), 1 ≤ i → tn (J (m + 1) 6) + 1 - i < n → M_thinker_L14 m n J i = -1 ∨ (0 ≤ M_thinker_L14 m n J i ∧ tn (M_thinker_L14 m n J i) < tn (J (m + 1) 6) ∧ 0 ≤ J (m + 1) 8 ∧ M_reasonAgainst m (tn (M_thinker_L14 m n J i)) J = 0) := by
      intro n
      induction n with
      | zero => intro i _ h; omega
      | succ n ih =>
        intro i h1 hn
        unfold M_thinker_L14
        by_cases d : tn (J (m + 1) 6) < i
        · rw [if_pos d]
          exact Or.inl rfl
        · rw [if_neg d]
          have hr := md_th hv h1 (by omega)
          have h6 := hv.2.1.2.2
          generalize J (m + 1) 10 + nI i - (J (m + 1) 10 + nI i) / J (m + 1) 6 * J (m + 1) 6 = y at *
          by_cases e : M_reasonAgainst m (tn y) J = 0
          · rw [if_pos e]
            by_cases g : Op.cmpValue (FP.dcmp (M_worthTo m (tn y) (tn (J (m + 1) 8)) J) (FP.i2d (M_bidNext m J))) .l < 0
            · rw [if_pos g]
              exact ih (i + 1) (by omega) (by omega)
            · rw [if_neg g, tn_nI (by omega)]
              exact Or.inr ⟨nI_ge0 (by omega), hr.2, c, e⟩
          · rw [if_neg e]
            exact ih (i + 1) (by omega) (by omega)
    exact L 8 1 (by omega) (by have := hv.2.1; omega)
  · rw [if_neg c]
    exact Or.inl rfl
theorem rl_t1 {x y : Int32} (h : rl a I (J (m + 1))) (hv : md_V (J (m + 1))) (hx : x = y) : rl a (ow_u I (a + 1) 2 x) (ow_u J (m + 1) 5 y (m + 1)) := by
  have h6 := hv.2.1.2.2
  obtain ⟨⟨t1, t2, t3⟩, ⟨s1, s2, s3, s4, s5, s6⟩, ⟨c1, c2, c3⟩, ⟨b1, b2, b3, b4⟩, hY, hQ, hB⟩ := h
  refine ⟨⟨?_, ?_, ?_⟩, ⟨?_, ?_, ?_, ?_, ?_, ?_⟩, ⟨?_, ?_, ?_⟩, ⟨?_, ?_, ?_, ?_⟩, rY_c hY h6 ?_ (fun j _ _ => ?_) (fun q _ _ => ?_), rQ_c hQ hv.2.2.2.2.2.1.2 ?_ (fun j _ _ => ?_) ?_, rB_c hB hv ?_ (fun j _ _ => ?_) (fun q _ _ => ?_)⟩
  all_goals (try (simp (disch := omega) only [u_one, rr_u, if_neg, if_pos, if_true]; done))
  all_goals (try (simp (disch := omega) only [u_one, rr_u, if_neg, if_pos, if_true]; assumption))
theorem rl_q1 {x : Int32} (h : rl a I (J (m + 1))) (hv : md_V (J (m + 1))) (h8 : 0 ≤ J (m + 1) 8) (hx : x = J (m + 1) 11 + nI 1) : rl a (ow_u I a 16 x) (ow_u J (m + 1) 11 (J (m + 1) 11 + nI 1) (m + 1)) := by
  have h6 := hv.2.1.2.2
  obtain ⟨⟨t1, t2, t3⟩, ⟨s1, s2, s3, s4, s5, s6⟩, ⟨c1, c2, c3⟩, ⟨b1, b2, b3, b4⟩, hY, hQ, hB⟩ := h
  refine ⟨⟨?_, ?_, ?_⟩, ⟨?_, ?_, ?_, ?_, ?_, ?_⟩, ⟨?_, ?_, ?_⟩, ⟨?_, ?_, ?_, ?_⟩, rY_c hY h6 ?_ (fun j _ _ => ?_) (fun q _ _ => ?_), rQ_c hQ hv.2.2.2.2.2.1.2 ?_ (fun j _ _ => ?_) ?_, rB_c hB hv ?_ (fun j _ _ => ?_) (fun q _ _ => ?_)⟩
  all_goals (try (simp (disch := omega) only [u_one, rr_u, if_neg, if_pos, if_true]; done))
  all_goals (try (simp (disch := omega) only [u_one, rr_u, if_neg, if_pos, if_true]; assumption))
  · simp (disch := omega) only [u_one, rr_u, if_neg, if_pos, if_true]
    rw [if_neg (nm1 h8), hx]
/-- what both are after an act, and whether a barrel was sold -/
def st1 (a m B : Nat) (n0 : Nat) (I J : ow_I) (s : Bool) : Prop := rl a I (J (m + 1)) ∧ md_V (J (m + 1)) ∧ iv B (J (m + 1)) ∧ sdN (J (m + 1)) (tn (J (m + 1) 7)) = n0 + (if s then 1 else 0)
theorem st_close {n0 : Nat} (hr : rl a I (J (m + 1))) (hv : md_V (J (m + 1))) (hi : iw B (J (m + 1))) (hs : sdN (J (m + 1)) (tn (J (m + 1) 7)) = n0) (h8 : 0 ≤ J (m + 1) 8) : st1 a m B n0 (K_closeBarrel a I).2 (M_closeBarrel m J) (K_closeBarrel a I).1 := by
  rcases mV10 hv with q | q
  · have h1 := rl_back hr hv h8 q
    have h2 := iv_back hv hi h8 q
    refine ⟨h1.2, V_close hv h8, h2.1, ?_⟩
    rw [h1.1, h2.2, hs]
    rfl
  · have h1 := rl_sell hr hv h8 q.1
    have h2 := iv_sell hv hi h8 q.1
    refine ⟨h1.2, V_close hv h8, h2.1, ?_⟩
    rw [h1.1, h2.2, hs]
    rfl
theorem st_pass {n0 : Nat} (h : st1 a m B n0 I J false) (hB : B < 2 ^ 30) : st1 a m (B + 1) n0 (K_passOneMinute a I).2 (M_passOne m J) (K_passOneMinute a I).1 := by
  obtain ⟨hr, hv, hi, hs⟩ := h
  have hr1 := rl_t1 hr hv (show I (a + 1) 2 + nI 1 = J (m + 1) 5 + nI 1 by rw [hr.1.2.2])
  have hi1 := iv_t1 hi hv hB
  have hv1 := V_row hv (J (m + 1) 5 + nI 1) (Or.inl rfl)
  have hs1 : sdN (ow_u J (m + 1) 5 (J (m + 1) 5 + nI 1) (m + 1)) (tn (ow_u J (m + 1) 5 (J (m + 1) 5 + nI 1) (m + 1) 7)) = n0 := by
    rw [u_one, if_neg (by decide), sdN_c (f := J (m + 1)) _ (fun k hk => by rw [u_one, if_neg (by omega)])]
    exact hs
  obtain ⟨⟨⟨p, l, e0, p5, p60, e1, l1, lp⟩, ⟨pa, e2, pa1, pa9⟩, -, -, n, e5, hn⟩, -⟩ := id hi
  simp only [K_passOneMinute, M_passOne, M_think, lt_eq]
  generalize hI1 : ow_u I (a + 1) 2 (I (a + 1) 2 + nI 1) = I1 at hr1 ⊢
  generalize hJ1 : ow_u J (m + 1) 5 (J (m + 1) 5 + nI 1) = J1 at hr1 hi1 hv1 hs1 ⊢
  have f0 : J1 (m + 1) 0 = nI p := by rw [← hJ1, u_one, if_neg (by decide)]; exact e0
  have f1 : J1 (m + 1) 1 = nI l := by rw [← hJ1, u_one, if_neg (by decide)]; exact e1
  have f2 : J1 (m + 1) 2 = nI pa := by rw [← hJ1, u_one, if_neg (by decide)]; exact e2
  have f5 : J1 (m + 1) 5 = nI (n + 1) := by rw [← hJ1, u_one, if_pos rfl, e5, nI_add]
  have hst : st1 a m (B + 1) n0 I1 J1 false := ⟨hr1, hv1, hi1, hs1⟩
  have hb := blow_N (m := m) (J := J1) (n := n + 1) f0 f1 ⟨p5, p60⟩ ⟨l1, lp⟩ ⟨by omega, by omega⟩
  have ho := opn_N (m := m) (J := J1) (n := n + 1) f0 f1 ⟨p5, p60⟩ lp (by omega)
  have hh := horn_N (I := I1) (t := a + 1) (n := n + 1) (hr1.1.1.trans f0) (hr1.1.2.1.trans f1) (hr1.1.2.2.trans f5) ⟨p5, p60⟩ lp (by omega)
  have hlow := low_eq hr1.1.1 hr1.1.2.1 hr1.1.2.2 hi1
  have hon : M_isOpenNow m J1 = decide ((n + 1) % p < l) := by
    unfold M_isOpenNow
    rw [f5]
    exact ho
  rw [f5, hb, hh, hlow, hon]
  have e8 := hr1.2.2.2.1.1
  by_cases c : (n + 1) % p = l
  · rw [decide_eq_true c, if_pos rfl, if_pos rfl, decide_eq_false (show ¬ (n + 1) % p < l by omega), if_neg (show ¬ false = true by decide)]
    rcases mV8 hv1 with q | q
    · rw [if_pos (show J1 (m + 1) 8 < 0 by rw [q]; decide)]
      have hc : K_closeBarrel a I1 = (false, I1) := by
        unfold K_closeBarrel
        rw [e8, if_pos q]
      rw [hc]
      exact hst
    · rw [if_neg (i_ge q.1)]
      have h9 := st_close hr1 hv1 (iv_w hi1) hs1 q.1
      have hno : M_isOpenNow m (M_closeBarrel m J1) = false := by
        have g := h9.2.2.1.1
        have k0 : M_closeBarrel m J1 (m + 1) 0 = J1 (m + 1) 0 ∧ M_closeBarrel m J1 (m + 1) 1 = J1 (m + 1) 1 ∧ M_closeBarrel m J1 (m + 1) 5 = J1 (m + 1) 5 := by
          have hob := mdV_8 hv1 q.1
          have hyb := mdV_10 hv1
          simp only [M_closeBarrel, lt_eq]
          split
          · simp only [M_turnBack, M_enqueue, M_putBarrel, lt_eq]
            split <;> (refine ⟨?_, ?_, ?_⟩ <;> simp (disch := omega) only [u_one, rr_u, if_neg, if_pos, if_true])
          · simp only [M_sell, M_put, M_putBarrel, lt_eq]
            refine ⟨?_, ?_, ?_⟩ <;> simp (disch := omega) only [u_one, rr_u, if_neg, if_pos, if_true]
        unfold M_isOpenNow
        rw [k0.2.2, f5, opn_N (k0.1.trans f0) (k0.2.1.trans f1) ⟨p5, p60⟩ lp (by omega), decide_eq_false (by omega)]
      rw [hno, if_neg (by decide)]
      exact h9
  · rw [decide_eq_false c, if_neg (show ¬ false = true by decide), if_neg (show ¬ false = true by decide)]
    by_cases d : (n + 1) % p < l
    · rw [decide_eq_true d, if_pos rfl, if_pos rfl, e8]
      rcases mV8 hv1 with q | q
      · rw [if_pos q, if_neg (show ¬ 0 ≤ J1 (m + 1) 8 by rw [q]; exact i_m1)]
        have g := iv_opn hv1 hi1 q
        exact ⟨rl_opn hr1 hv1 q, V_openFirst hv1 (by rw [q]; exact i_m1), g.1, by rw [g.2]; exact hs1⟩
      · rw [if_neg (nm1 q.1), if_pos q.1, who_eq hr1 hv1 hi1]
        rcases th_or hv1 with z | ⟨z1, z2, z3, z4⟩
        · rw [if_pos z, if_pos (show M_thinker m J1 < 0 by rw [z]; decide)]
          obtain ⟨-, q0, eq, hq⟩ := hi1.2.2.2.1 q.1
          rw [f2, tn_nI (by omega)] at hq
          have e16 : I1 a 16 = J1 (m + 1) 11 := by
            have := hr1.2.2.2.1.2.2.2
            rw [if_neg (nm1 q.1)] at this
            exact this
          have hr2 := rl_q1 hr1 hv1 q.1 (show I1 a 16 + nI 1 = J1 (m + 1) 11 + nI 1 by rw [e16])
          have hv2 := V_row hv1 (J1 (m + 1) 11 + nI 1) (Or.inr (Or.inl rfl))
          have g1 : ow_u I1 a 16 (I1 a 16 + nI 1) a 16 = nI (q0 + 1) := by rw [ow_u_s, e16, eq, nI_add]
          have g2 : ow_u I1 a 16 (I1 a 16 + nI 1) a 1 = nI pa := by rw [u_one, if_neg (by decide), hr1.2.1.1, f2]
          have g3 : ow_u J1 (m + 1) 11 (J1 (m + 1) 11 + nI 1) (m + 1) 11 = nI (q0 + 1) := by rw [ow_u_s, eq, nI_add]
          have g4 : ow_u J1 (m + 1) 11 (J1 (m + 1) 11 + nI 1) (m + 1) 2 = nI pa := by rw [u_one, if_neg (by decide), f2]
          have g8 : ow_u J1 (m + 1) 11 (J1 (m + 1) 11 + nI 1) (m + 1) 8 = J1 (m + 1) 8 := by rw [u_one, if_neg (by decide)]
          have hsd : sdN (ow_u J1 (m + 1) 11 (J1 (m + 1) 11 + nI 1) (m + 1)) (tn (ow_u J1 (m + 1) 11 (J1 (m + 1) 11 + nI 1) (m + 1) 7)) = n0 := by
            rw [u_one, if_neg (by decide), sdN_c (f := J1 (m + 1)) _ (fun k hk => by rw [u_one, if_neg (by omega)])]
            exact hs1
          rw [g1, g2, g3, g4]
          by_cases w : q0 + 1 = pa
          · rw [if_pos (by rw [w]), if_neg (show ¬ nI (q0 + 1) < nI pa by rw [w]; exact fun z => Int32.lt_irrefl z)]
            have h9 := st_close hr2 hv2 (iw_q1 hv1 hi1) hsd (by rw [g8]; exact q.1)
            have e9 : (if (K_closeBarrel a (ow_u I1 a 16 (I1 a 16 + nI 1))).1 = true then (true, (K_closeBarrel a (ow_u I1 a 16 (I1 a 16 + nI 1))).2) else (false, (K_closeBarrel a (ow_u I1 a 16 (I1 a 16 + nI 1))).2)) = K_closeBarrel a (ow_u I1 a 16 (I1 a 16 + nI 1)) := by
              generalize K_closeBarrel a (ow_u I1 a 16 (I1 a 16 + nI 1)) = r
              obtain ⟨b, Y⟩ := r
              cases b <;> rfl
            rw [e9]
            exact h9
          · have w2 : nI (q0 + 1) < nI pa := nI_lt (by omega) (by omega)
            rw [if_neg (fun u => w ((nI_eq (by omega) (by omega)).mp u)), if_pos w2]
            refine ⟨hr2, hv2, iv_q1 hv1 hi1 q.1 ?_, hsd⟩
            rw [eq, nI_add, f2]
            exact w2
        · rw [if_neg (nm1 z1), if_neg (i_ge z1)]
          have e : nI (tn (M_thinker m J1)) = M_thinker m J1 := nI_tn z1
          have g := rl_nod hr1 hv1 q.1 z2
          rw [e] at g
          refine ⟨g, V_nodNow hv1 q.1 z2, iv_nod hv1 hi1 q.1 z2 z4, ?_⟩
          have : sdN ((M_nodNow m (tn (M_thinker m J1)) J1).2 (m + 1)) (tn ((M_nodNow m (tn (M_thinker m J1)) J1).2 (m + 1) 7)) = sdN (J1 (m + 1)) (tn (J1 (m + 1) 7)) := by
            have h6b := hv1.2.1.2.2
            have k7 : (M_nodNow m (tn (M_thinker m J1)) J1).2 (m + 1) 7 = J1 (m + 1) 7 := by
              simp only [M_nodNow, M_put, lt_eq]
              simp (disch := omega) only [u_one, rr_u, if_neg, if_pos, if_true]
            rw [k7]
            refine sdN_c _ (fun k hk => ?_)
            have k8 : (M_nodNow m (tn (M_thinker m J1)) J1).2 (m + 1) (66 + 15 * k + 12) = J1 (m + 1) (66 + 15 * k + 12) := by
              simp only [M_nodNow, M_put, lt_eq]
              simp (disch := omega) only [u_one, rr_u, if_neg, if_pos, if_true]
            rw [k8]
          rw [this]
          exact hs1
    · rw [decide_eq_false d, if_neg (by decide), if_neg (by decide)]
      exact hst
end RLG
