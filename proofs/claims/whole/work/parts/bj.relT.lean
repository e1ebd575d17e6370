/-! more changes -/
section RRD
variable {x m B B' : Nat} {I I' J J' : ow_I}
theorem isB_c {b : Int32} (e : ∀ j, j < 370 → J' (m + 1) j = J (m + 1) j) (h : M_isBarrel m b J = true) : M_isBarrel m b J' = true := by
  unfold M_isBarrel at h ⊢
  rw [e 7 (by omega)]
  exact h
theorem r_withdraw {b : Int32} (h : RR x m B I J) : an x m B [3, 2] (A_withdraw x b I).1 (A_withdraw x b I).2.1 (M_withdraw m b J).1 (A_withdraw x b I).2.2 (M_withdraw m b J).2 := by
  rcases bar_or (b := b) h with ⟨q1, -, q3, q4, q5, q6⟩ | ⟨q1, -, q3⟩
  · have h1 := RR_18 (y := nI 0) h
    have hs := h1.2.1
    have e7 : ow_u J m 18 (nI 0) (m + 1) = J (m + 1) := e18 (by omega)
    have z18 : ow_u J m 18 (nI 0) m 18 = nI 0 := ow_u_s _ _ _ _
    have q4 : M_isBarrel m b (ow_u J m 18 (nI 0)) = true := isB_c (fun j _ => by rw [e7]) q4
    rw [← e7] at q6
    simp only [A_withdraw, M_withdraw, lt_eq, q1, q3, if_true]
    rw [if_neg (show ¬ false = true by decide)]
    generalize ow_u J m 18 (nI 0) = J1 at h1 hs q4 q6 z18 ⊢
    have h7 := hs.2.1.2.2.1.2
    rw [wait_eq hs.1 hs.2.1 q4]
    obtain ⟨d, hd, rfl⟩ := nI_ex q5 q6
    rw [tn_nI (by omega)]
    by_cases g : M_isWaiting m d J1 = true
    · rw [if_pos g, g, if_pos rs_t]
      have h2 := RR_rem h1
      have e0 : ∀ j, j < 370 → M_keep m 0 J1 (m + 1) j = J1 (m + 1) j := fun j hj => keepC h1 hj
      have g2 : M_isWaiting m d (M_keep m 0 J1) = true := by rw [wait_c (by omega) e0, g]
      have d2 : d < tn (M_keep m 0 J1 (m + 1) 7) := by rw [e0 7 (by omega)]; exact hd
      obtain ⟨s1, s2⟩ := st_wdr h2.2.1 d2 g2
      obtain ⟨p, hp, hpb⟩ := V_wait h2.2.1.2.1 d2 g2
      have f := F_withdraw (m := m) (b := d) (p := p) (I := M_keep m 0 J1) h2.2.1.2.1 (by omega) hp hpb
      refine ⟨RR_act h2 (Nat.le_refl _) s1 (kV_away h2.1.1.1) (fun q hq _ => rr_away (by omega) h2.1.1.1) f.1 (fun j hj => f.2 j (Or.inl hj)), ?_, fun _ => s2⟩
      rw [f.1 m (by omega), keep18 h1, z18]
      rfl
    · have gf : M_isWaiting m d J1 = false := by cases hq : M_isWaiting m d J1 with | true => exact absurd hq g | false => rfl
      rw [gf, rs_f, if_neg (show ¬ (2 : Nat) = 0 by decide), if_neg (show ¬ false = true by decide)]
      exact ⟨RR_18 h1, ow_u_s _ _ _ _, fun z => ns0 z⟩
  · simp only [A_withdraw, M_withdraw, lt_eq, q1, q3, if_true]
    rw [if_neg (by decide)]
    exact ⟨RR_18 (RR_18 h), ow_u_s _ _ _ _, fun z => ns0 z⟩
theorem r_fund {b c : Int32} (h : RR x m B I J) : an x m B [3, 1] (A_fund x b c I).1 (A_fund x b c I).2.1 (M_fund m b c J).1 (A_fund x b c I).2.2 (M_fund m b c J).2 := by
  rcases buy_or (b := b) h with ⟨q2, q3, q5, q6⟩ | ⟨q2, q3⟩
  · have h1 := RR_18 (y := nI 0) h
    have hs := h1.2.1
    have e7 : ow_u J m 18 (nI 0) (m + 1) = J (m + 1) := e18 (by omega)
    have z18 : ow_u J m 18 (nI 0) m 18 = nI 0 := ow_u_s _ _ _ _
    rw [← e7] at q6
    simp only [A_fund, M_fund, lt_eq, q2, q3, if_true]
    rw [if_neg (show ¬ false = true by decide)]
    generalize ow_u J m 18 (nI 0) = J1 at h1 hs q6 z18 ⊢
    have h6 := hs.2.1.2.1.2.2
    rcases rng_or (v := c) (lo := nI 1) (hi := nI 9999) (I := I) (J := J1) with ⟨p1, p2, p3, p4⟩ | ⟨p1, p2⟩
    · simp only [p1, p2, if_true]
      have n0 : 0 ≤ c := by
        rw [Int32.le_iff_toInt_le] at p3 ⊢
        exact Int.le_trans (by decide) p3
      obtain ⟨y, hy, rfl⟩ := nI_ex n0 (tn_lt c)
      have c2 := (nI_leI hy (by decide)).mp p4
      obtain ⟨d, hd, rfl⟩ := nI_ex q5 q6
      rw [tn_nI (by omega)]
      have h2 := RR_rem h1
      have e0 : ∀ j, j < 370 → M_keep m 0 J1 (m + 1) j = J1 (m + 1) j := fun j hj => keepC h1 hj
      have d2 : d < tn (M_keep m 0 J1 (m + 1) 6) := by rw [e0 6 (by omega)]; exact hd
      obtain ⟨s1, s2⟩ := st_fund (x := nI y) h2.2.1 d2 ⟨y, rfl, c2⟩
      have f := F_fund (m := m) (b := d) (x := nI y) (I := M_keep m 0 J1) (by omega)
      refine ⟨RR_act h2 (Nat.le_refl _) s1 (kV_put h2.1.1.1) (fun q hq _ => rr_kput (by omega) h2.1.1.1) f.1 (fun j hj => f.2 j (Or.inl hj)), ?_, fun _ => s2⟩
      rw [f.1 m (by omega), keep18 h1, z18]
      rfl
    · simp only [p1, p2]
      rw [if_neg (show ¬ (1 : Nat) = 0 by decide), if_neg (show ¬ false = true by decide)]
      exact ⟨RR_18 h1, ow_u_s _ _ _ _, fun z => ns0 z⟩
  · simp only [A_fund, M_fund, lt_eq, q2, q3, if_true]
    rw [if_neg (by decide)]
    exact ⟨RR_18 (RR_18 h), ow_u_s _ _ _ _, fun z => ns0 z⟩
theorem r_setReserve {b c : Int32} (h : RR x m B I J) : an x m B [3, 1, 2] (A_setReserve x b c I).1 (A_setReserve x b c I).2.1 (M_setReserve m b c J).1 (A_setReserve x b c I).2.2 (M_setReserve m b c J).2 := by
  rcases bar_or (b := b) h with ⟨q1, -, q3, q4, q5, q6⟩ | ⟨q1, -, q3⟩
  · have h1 := RR_18 (y := nI 0) h
    have hs := h1.2.1
    have e7 : ow_u J m 18 (nI 0) (m + 1) = J (m + 1) := e18 (by omega)
    have z18 : ow_u J m 18 (nI 0) m 18 = nI 0 := ow_u_s _ _ _ _
    have q4 : M_isBarrel m b (ow_u J m 18 (nI 0)) = true := isB_c (fun j _ => by rw [e7]) q4
    rw [← e7] at q6
    simp only [A_setReserve, M_setReserve, lt_eq, q1, q3, if_true]
    rw [if_neg (show ¬ false = true by decide)]
    generalize ow_u J m 18 (nI 0) = J1 at h1 hs q4 q6 z18 ⊢
    have h7 := hs.2.1.2.2.1.2
    rcases rng_or (v := c) (lo := nI 1) (hi := nI 999) (I := I) (J := J1) with ⟨p1, p2, p3, p4⟩ | ⟨p1, p2⟩
    · simp only [p1, p2, if_true]
      have n0 : 0 ≤ c := by
        rw [Int32.le_iff_toInt_le] at p3 ⊢
        exact Int.le_trans (by decide) p3
      obtain ⟨y, hy, rfl⟩ := nI_ex n0 (tn_lt c)
      have c1 := (nI_leI (by decide) hy).mp p3
      have c2 := (nI_leI hy (by decide)).mp p4
      rw [wait_eq hs.1 hs.2.1 q4]
      obtain ⟨d, hd, rfl⟩ := nI_ex q5 q6
      rw [tn_nI (by omega)]
      by_cases g : M_isWaiting m d J1 = true
      · rw [if_pos g, g, if_pos rs_t]
        have h2 := RR_rem h1
        have e0 : ∀ j, j < 370 → M_keep m 0 J1 (m + 1) j = J1 (m + 1) j := fun j hj => keepC h1 hj
        have d2 : d < tn (M_keep m 0 J1 (m + 1) 7) := by rw [e0 7 (by omega)]; exact hd
        have s1 := st_res (x := nI y) h2.2.1 d2 ⟨y, rfl, c1, c2⟩
        have f : md_F m (M_keep m 0 J1) (M_putBarrel m d 10 (nI y) (M_keep m 0 J1)) := F_b F_r _ (by omega) (by omega)
        refine ⟨RR_act h2 (Nat.le_refl _) s1 (kV_row h2.1.1.1 (by omega) (by omega) (Or.inr (by decide))) (fun q hq _ => rr_u (by omega)) f.1 (fun j hj => f.2 j (Or.inl hj)), ?_, fun _ => (h2.2.1.1.2.2.2.2.2.2 d d2).2.2.1⟩
        dsimp only
        rw [f.1 m (by omega), keep18 h1, z18]
        rfl
      · have gf : M_isWaiting m d J1 = false := by cases hq : M_isWaiting m d J1 with | true => exact absurd hq g | false => rfl
        rw [gf, rs_f, if_neg (show ¬ (2 : Nat) = 0 by decide), if_neg (show ¬ false = true by decide)]
        exact ⟨RR_18 h1, ow_u_s _ _ _ _, fun z => ns0 z⟩
    · simp only [p1, p2]
      rw [if_neg (show ¬ (1 : Nat) = 0 by decide), if_neg (show ¬ false = true by decide)]
      exact ⟨RR_18 h1, ow_u_s _ _ _ _, fun z => ns0 z⟩
  · simp only [A_setReserve, M_setReserve, lt_eq, q1, q3, if_true]
    rw [if_neg (by decide)]
    exact ⟨RR_18 (RR_18 h), ow_u_s _ _ _ _, fun z => ns0 z⟩
theorem r_setStep {c : Int32} (h : RR x m B I J) : an x m B [1] (A_setStep x c I).1 (A_setStep x c I).2.1 (M_setStep m c J).1 (A_setStep x c I).2.2 (M_setStep m c J).2 := by
  have h1 := RR_18 (y := nI 0) h
  have z18 : ow_u J m 18 (nI 0) m 18 = nI 0 := ow_u_s _ _ _ _
  simp only [A_setStep, M_setStep, lt_eq]
  generalize ow_u J m 18 (nI 0) = J1 at h1 z18 ⊢
  rcases rng_or (v := c) (lo := nI 1) (hi := nI 50) (I := I) (J := J1) with ⟨p1, p2, p3, p4⟩ | ⟨p1, p2⟩
  · simp only [p1, p2, if_true]
    have n0 : 0 ≤ c := by
      rw [Int32.le_iff_toInt_le] at p3 ⊢
      exact Int.le_trans (by decide) p3
    obtain ⟨y, hy, rfl⟩ := nI_ex n0 (tn_lt c)
    have c1 := (nI_leI (by decide) hy).mp p3
    have c2 := (nI_leI hy (by decide)).mp p4
    have h2 := RR_rem h1
    have s1 := st_stp (x := nI y) h2.2.1 ⟨y, rfl, c1, c2⟩
    refine ⟨RR_act h2 (Nat.le_refl _) s1 (kV_a h2.1.1.1 (by decide)) (fun q hq _ => rr_u (by omega)) (fun q hq => rr_u hq) (fun j hj => ow_u_k _ _ _ _ (by omega) _), ?_, fun _ => h2.2.1.1.2.1.2.1⟩
    rw [rr_u (by omega), keep18 h1, z18]
    rfl
  · simp only [p1, p2]
    rw [if_neg (show ¬ (1 : Nat) = 0 by decide), if_neg (show ¬ false = true by decide)]
    exact ⟨RR_18 h1, ow_u_s _ _ _ _, fun z => ns0 z⟩
theorem r_setTaste {b s f : Int32} (h : RR x m B I J) : an x m B [3, 1] (A_setTaste x b s f I).1 (A_setTaste x b s f I).2.1 (M_setTaste m b s f J).1 (A_setTaste x b s f I).2.2 (M_setTaste m b s f J).2 := by
  rcases buy_or (b := b) h with ⟨q2, q3, q5, q6⟩ | ⟨q2, q3⟩
  · have h1 := RR_18 (y := nI 0) h
    have hs := h1.2.1
    have e7 : ow_u J m 18 (nI 0) (m + 1) = J (m + 1) := e18 (by omega)
    have z18 : ow_u J m 18 (nI 0) m 18 = nI 0 := ow_u_s _ _ _ _
    rw [← e7] at q6
    simp only [A_setTaste, M_setTaste, lt_eq, q2, q3, if_true]
    rw [if_neg (show ¬ false = true by decide)]
    generalize ow_u J m 18 (nI 0) = J1 at h1 hs q6 z18 ⊢
    have h6 := hs.2.1.2.1.2.2
    rcases rng_or (v := s) (lo := nI 0) (hi := nI 4) (I := I) (J := J1) with ⟨p1, p2, -⟩ | ⟨p1, p2⟩
    · simp only [p1, p2, if_true]
      rcases rng_or (v := f) (lo := nI 1) (hi := nI 999) (I := I) (J := J1) with ⟨p1, p2, -⟩ | ⟨p1, p2⟩
      · simp only [p1, p2, if_true]
        obtain ⟨d, hd, rfl⟩ := nI_ex q5 q6
        rw [tn_nI (by omega)]
        have h2 := RR_rem h1
        have e0 : ∀ j, j < 370 → M_keep m 0 J1 (m + 1) j = J1 (m + 1) j := fun j hj => keepC h1 hj
        have d2 : d < tn (M_keep m 0 J1 (m + 1) 6) := by rw [e0 6 (by omega)]; exact hd
        have s1 := st_tst (x := s) (y := f) h2.2.1 d2
        have ff : md_F m (M_keep m 0 J1) (M_put m d 2 f (M_put m d 1 s (M_keep m 0 J1))) := F_p (F_p F_r _ (by omega) (by omega)) _ (by omega) (by omega)
        refine ⟨RR_act h2 (Nat.le_refl _) s1 (kV_row (kV_row h2.1.1.1 (by omega) (by omega) (Or.inl fun i _ => by omega)) (by omega) (by omega) (Or.inl fun i _ => by omega)) (fun q hq _ => by rw [rr_u (by omega), rr_u (by omega)]) ff.1 (fun j hj => ff.2 j (Or.inl hj)), ?_, fun _ => h2.2.1.1.2.2.2.2.1 d d2 1 (by decide)⟩
        rw [ff.1 m (by omega), keep18 h1, z18]
        rfl
      · simp only [p1, p2]
        rw [if_neg (show ¬ (1 : Nat) = 0 by decide), if_neg (show ¬ false = true by decide)]
        exact ⟨RR_18 h1, ow_u_s _ _ _ _, fun z => ns0 z⟩
    · simp only [p1, p2]
      rw [if_neg (show ¬ (1 : Nat) = 0 by decide), if_neg (show ¬ false = true by decide)]
      exact ⟨RR_18 h1, ow_u_s _ _ _ _, fun z => ns0 z⟩
  · simp only [A_setTaste, M_setTaste, lt_eq, q2, q3, if_true]
    rw [if_neg (by decide)]
    exact ⟨RR_18 (RR_18 h), ow_u_s _ _ _ _, fun z => ns0 z⟩
end RRD
