/-! THE LEDGER IS KEPT BY WHAT THE MARKET DOES -/
section LK
variable {m P B : Nat} {J : ow_I}
theorem lk_sell (hP : P < 2 ^ 31) (hv : md_V (J (m + 1))) (hi : iw B (J (m + 1))) (h8 : 0 ≤ J (m + 1) 8) (h10 : 0 ≤ J (m + 1) 10) (h : lgf P (J (m + 1))) : lgf P (M_closeBarrel m J (m + 1)) ∧ kq (J (m + 1)) (M_closeBarrel m J (m + 1)) := by
  have h6 := hv.2.1.2.2
  have h7 := hv.2.2.1.2
  have hko := rl_open (a := 0) (I := J) hv h8
  have hly := rl_lead hv h10
  obtain ⟨hH, hY, hK, hO, hL, hS⟩ := hi
  have o1 := hO h8
  obtain ⟨c0, e9, hle⟩ := hL h10
  obtain ⟨cu, ecu, hcu⟩ := hY _ hly
  obtain ⟨fe, e4, hfe⟩ := hH.2.2.2.1
  rw [ecu, e4, tn_nI (by omega), tn_nI (by omega)] at hle
  have hcost := cost_N (m := m) (J := J) e4 hfe (show c0 ≤ 200000 by omega)
  rw [← e9] at hcost
  have c := ce_sell (m := m) (J := J) (i_ge h10) (by omega) (by omega)
  generalize M_closeBarrel m J (m + 1) = g at c ⊢
  generalize M_costOfPrice m (J (m + 1) 9) J = cost at c hcost
  generalize J (m + 1) = f at *
  generalize hk0 : tn (f 8) = k0 at *
  generalize hy0 : tn (f 10) = y0 at *
  have s0 : ∀ j, (j < 8 ∨ j = 12 ∨ j = 15) → g j = f j := fun j hj => by rw [c]; simp (disch := omega) only [if_neg]
  have s13 : g 13 = f 13 + f 9 := by rw [c]; simp (disch := omega) only [if_neg, if_pos, if_true]
  have s14 : g 14 = f 14 + (cost - f 9) := by rw [c]; simp (disch := omega) only [if_neg, if_pos, if_true]
  have bk : ∀ k, k < 20 → k ≠ k0 → ∀ w, w < 15 → g (66 + 15 * k + w) = f (66 + 15 * k + w) := fun k hk hne w hw => by rw [c]; simp (disch := omega) only [if_neg]
  have b11 : g (66 + 15 * k0 + 11) = f (66 + 15 * k0 + 11) := by rw [c]; simp (disch := omega) only [if_neg]
  have b12 : g (66 + 15 * k0 + 12) = nI 2 := by rw [c]; simp (disch := omega) only [if_neg, if_pos, if_true]
  have b13 : g (66 + 15 * k0 + 13) = nI y0 := by rw [c]; simp (disch := omega) only [if_neg, if_pos, if_true]
  have b14 : g (66 + 15 * k0 + 14) = f 9 := by rw [c]; simp (disch := omega) only [if_neg, if_pos, if_true]
  have yk : ∀ y, y < 6 → y ≠ y0 → ∀ w, w < 5 → g (36 + 5 * y + w) = f (36 + 5 * y + w) := fun y hy hne w hw => by rw [c]; simp (disch := omega) only [if_neg]
  have y3 : g (36 + 5 * y0 + 3) = f (36 + 5 * y0 + 3) + nI 1 := by rw [c]; simp (disch := omega) only [if_neg, if_pos, if_true]
  have y0' : g (36 + 5 * y0) = f (36 + 5 * y0) - cost := by
    have := c (36 + 5 * y0 + 0)
    simp (disch := omega) only [if_neg, if_true] at this
    exact this
  have hns : ¬ f (66 + 15 * k0 + 12) = nI 2 := by rw [o1]; decide
  obtain ⟨q1, q2, q3, q4, q5, q6, q7⟩ := h
  refine ⟨?_, s0 0 (by omega), s0 1 (by omega), s0 2 (by omega), s0 4 (by omega), s0 6 (by omega), s0 7 (by omega)⟩
  unfold lgf
  rw [s0 6 (by omega), s0 7 (by omega), s0 15 (by omega), s13, s14]
  refine ⟨fun b hb hs => ?_, fun b hb hs => ?_, fun y hy => ?_, ?_, ?_, fun b hb hs => ?_, fun y hy => ?_⟩
  · by_cases e : b = k0
    · subst e
      rw [b13, tn_nI (by omega)]
      exact ⟨nI_ge0 (by omega), hly⟩
    · rw [bk b (by omega) e 12 (by decide)] at hs
      rw [bk b (by omega) e 13 (by decide)]
      exact q1 b hb hs
  · by_cases e : b = k0
    · subst e; exact absurd b12 hs
    · rw [bk b (by omega) e 12 (by decide)] at hs
      rw [bk b (by omega) e 13 (by decide), bk b (by omega) e 14 (by decide)]
      exact q2 b hb hs
  · rw [zB_1 (y := y) (by omega) (show y0 < 2 ^ 31 by omega) hns b12 b13 _ (fun k hk hne => ⟨bk k (by omega) hne 12 (by decide), bk k (by omega) hne 13 (by decide)⟩)]
    by_cases e : y = y0
    · subst e
      rw [y3, q3 y hy, if_pos ⟨hko, rfl⟩, nI_add]
    · rw [yk y (by omega) e 3 (by decide), q3 y hy, if_neg (fun z => e z.2)]
      rfl
  · rw [zP_1 hns b12 b14 _ (fun k hk hne => ⟨bk k (by omega) hne 12 (by decide), bk k (by omega) hne 14 (by decide)⟩), if_pos hko, q4]
  · rw [zS_1 (x := -cost) (y0 := y0) (by rw [y0', Int32.sub_eq_add_neg]) _ (fun k hk hne => yk k (by omega) hne 0 (by decide)), if_pos hly, rg_1]
    exact q5
  · by_cases e : b = k0
    · subst e; rw [b12] at hs; rcases hs with hs | hs <;> exact absurd hs (by decide)
    · rw [bk b (by omega) e 12 (by decide)] at hs
      rw [bk b (by omega) e 11 (by decide)]
      exact q6 b hb hs
  · by_cases e : y = y0
    · subst e
      obtain ⟨cp, g1, g2⟩ := q7 y hy
      have : cp = cu := (nI_eq (by omega) (by omega)).mp (g1.symm.trans ecu)
      refine ⟨cu - (c0 + c0 * fe / 100), ?_, by omega⟩
      rw [y0', ecu, hcost, nI_sb (by omega)]
    · have := yk y (by omega) e 0 (by decide)
      rw [show 36 + 5 * y + 0 = 36 + 5 * y from rfl] at this
      rw [this]; exact q7 y hy
theorem lk_back (hv : md_V (J (m + 1))) (hi : iw B (J (m + 1))) (h8 : 0 ≤ J (m + 1) 8) (h10 : J (m + 1) 10 = -1) (h : lgf P (J (m + 1))) : lgf P (M_closeBarrel m J (m + 1)) ∧ kq (J (m + 1)) (M_closeBarrel m J (m + 1)) := by
  have h6 := hv.2.1.2.2
  have h7 := hv.2.2.1.2
  have hq := mdV_q hv h8
  have hko := rl_open (a := 0) (I := J) hv h8
  obtain ⟨hH, hY, hK, hO, hL, hS⟩ := hi
  have o1 := hO h8
  have hlt : J (m + 1) 10 < 0 := by rw [h10]; decide
  obtain ⟨r, er, hr⟩ := h.2.2.2.2.2.1 _ hko (Or.inr o1)
  by_cases cc : J (m + 1) (66 + 15 * tn (J (m + 1) 8) + 11) + nI 1 = nI 3
  · have c := ce_back (m := m) (J := J) hlt (by omega) cc
    generalize M_closeBarrel m J (m + 1) = g at c ⊢
    generalize J (m + 1) = f at *
    generalize hk0 : tn (f 8) = k0 at *
    have s0 : ∀ j, (j < 8 ∨ (11 < j ∧ j < 66)) → g j = f j := fun j hj => by rw [c]; simp (disch := omega) only [if_neg]
    have bk : ∀ k, k < 20 → ∀ w, 12 < w → w < 15 → g (66 + 15 * k + w) = f (66 + 15 * k + w) := fun k hk w h1 hw => by rw [c]; simp (disch := omega) only [if_neg]
    have bn : ∀ k, k < 20 → k ≠ k0 → ∀ w, w < 15 → g (66 + 15 * k + w) = f (66 + 15 * k + w) := fun k hk hne w hw => by rw [c]; simp (disch := omega) only [if_neg]
    have b12 : g (66 + 15 * k0 + 12) = nI 3 := by rw [c]; simp (disch := omega) only [if_neg, if_pos, if_true]
    refine ⟨lgf_s hv h (s0 6 (by omega)) (s0 7 (by omega)) (s0 13 (by omega)) (s0 14 (by omega)) (s0 15 (by omega)) (fun y hy => ⟨s0 _ (by omega), s0 _ (by omega)⟩) (fun k hk => ⟨bk k hk 13 (by decide) (by decide), bk k hk 14 (by decide) (by decide)⟩) (fun k hk => ?_) (fun k hk hs => ?_), s0 0 (by omega), s0 1 (by omega), s0 2 (by omega), s0 4 (by omega), s0 6 (by omega), s0 7 (by omega)⟩
    · by_cases e : k = k0
      · subst e; rw [b12, o1]; exact ⟨fun z => absurd z (by decide), fun z => absurd z (by decide)⟩
      · rw [bn k hk e 12 (by decide)]
    · by_cases e : k = k0
      · subst e; rw [b12] at hs; rcases hs with hs | hs <;> exact absurd hs (by decide)
      · rw [bn k (by omega) e 12 (by decide)] at hs
        rw [bn k (by omega) e 11 (by decide)]
        exact h.2.2.2.2.2.1 k hk hs
  · have c := ce_again (m := m) (J := J) hlt (by omega) (by omega) cc
    generalize M_closeBarrel m J (m + 1) = g at c ⊢
    generalize J (m + 1) = f at *
    generalize hk0 : tn (f 8) = k0 at *
    have s0 : ∀ j, (j < 8 ∨ (12 < j ∧ j < 16) ∨ (36 ≤ j ∧ j < 66)) → g j = f j := fun j hj => by rw [c]; simp (disch := omega) only [if_neg]
    have bk : ∀ k, k < 20 → ∀ w, 12 < w → w < 15 → g (66 + 15 * k + w) = f (66 + 15 * k + w) := fun k hk w h1 hw => by rw [c]; simp (disch := omega) only [if_neg]
    have bn : ∀ k, k < 20 → k ≠ k0 → ∀ w, w < 15 → g (66 + 15 * k + w) = f (66 + 15 * k + w) := fun k hk hne w hw => by rw [c]; simp (disch := omega) only [if_neg]
    have b12 : g (66 + 15 * k0 + 12) = nI 0 := by rw [c]; simp (disch := omega) only [if_neg, if_pos, if_true]
    have b11 : g (66 + 15 * k0 + 11) = f (66 + 15 * k0 + 11) + nI 1 := by rw [c]; simp (disch := omega) only [if_neg, if_pos, if_true]
    refine ⟨lgf_s hv h (s0 6 (by omega)) (s0 7 (by omega)) (s0 13 (by omega)) (s0 14 (by omega)) (s0 15 (by omega)) (fun y hy => ⟨s0 _ (by omega), s0 _ (by omega)⟩) (fun k hk => ⟨bk k hk 13 (by decide) (by decide), bk k hk 14 (by decide) (by decide)⟩) (fun k hk => ?_) (fun k hk hs => ?_), s0 0 (by omega), s0 1 (by omega), s0 2 (by omega), s0 4 (by omega), s0 6 (by omega), s0 7 (by omega)⟩
    · by_cases e : k = k0
      · subst e; rw [b12, o1]; exact ⟨fun z => absurd z (by decide), fun z => absurd z (by decide)⟩
      · rw [bn k hk e 12 (by decide)]
    · by_cases e : k = k0
      · subst e
        refine ⟨r + 1, by rw [b11, er, nI_add], ?_⟩
        have : ¬ r + 1 = 3 := fun z => cc (by rw [er, nI_add, z])
        omega
      · rw [bn k (by omega) e 12 (by decide)] at hs
        rw [bn k (by omega) e 11 (by decide)]
        exact h.2.2.2.2.2.1 k hk hs
theorem lk_open (hv : md_V (J (m + 1))) (h : lgf P (J (m + 1))) : lgf P (M_openFirst m J (m + 1)) ∧ kq (J (m + 1)) (M_openFirst m J (m + 1)) := by
  by_cases c0 : tn (J (m + 1) 12) = 0
  · unfold M_openFirst
    rw [if_pos c0]
    exact ⟨h, rfl, rfl, rfl, rfl, rfl, rfl⟩
  have h6 := hv.2.1.2.2
  have h7 := hv.2.2.1.2
  have h12 := hv.2.2.2.2.2.1
  have hq := q0_V hv c0
  have c := ce_open hv c0
  generalize M_openFirst m J (m + 1) = g at c ⊢
  generalize J (m + 1) = f at *
  generalize hk0 : tn (f 16) = k0 at *
  have s0 : ∀ j, (j < 8 ∨ (12 < j ∧ j < 16) ∨ (36 ≤ j ∧ j < 66)) → g j = f j := fun j hj => by rw [c]; simp (disch := omega) only [if_neg]
  have bk : ∀ k, k < 20 → ∀ w, w ≠ 12 → w < 15 → g (66 + 15 * k + w) = f (66 + 15 * k + w) := fun k hk w h1 hw => by rw [c]; simp (disch := omega) only [if_neg]
  have bn : ∀ k, k < 20 → k ≠ k0 → g (66 + 15 * k + 12) = f (66 + 15 * k + 12) := fun k hk hne => by rw [c]; simp (disch := omega) only [if_neg]
  have b12 : g (66 + 15 * k0 + 12) = nI 1 := by rw [c]; simp (disch := omega) only [if_neg, if_pos, if_true]
  refine ⟨lgf_s hv h (s0 6 (by omega)) (s0 7 (by omega)) (s0 13 (by omega)) (s0 14 (by omega)) (s0 15 (by omega)) (fun y hy => ⟨s0 _ (by omega), s0 _ (by omega)⟩) (fun k hk => ⟨bk k hk 13 (by decide) (by decide), bk k hk 14 (by decide) (by decide)⟩) (fun k hk => ?_) (fun k hk hs => ?_), s0 0 (by omega), s0 1 (by omega), s0 2 (by omega), s0 4 (by omega), s0 6 (by omega), s0 7 (by omega)⟩
  · by_cases e : k = k0
    · subst e; rw [b12, hq.2.2]; exact ⟨fun z => absurd z (by decide), fun z => absurd z (by decide)⟩
    · rw [bn k hk e]
  · rw [bk k (by omega) 11 (by decide) (by decide)]
    by_cases e : k = k0
    · subst e; exact h.2.2.2.2.2.1 k hk (Or.inl hq.2.2)
    · rw [bn k (by omega) e] at hs
      exact h.2.2.2.2.2.1 k hk hs
theorem lk_nod {b : Nat} (hv : md_V (J (m + 1))) (hb : b < 6) (h : lgf P (J (m + 1))) : lgf P ((M_nodNow m b J).2 (m + 1)) ∧ kq (J (m + 1)) ((M_nodNow m b J).2 (m + 1)) := by
  have c := ce_nod (m := m) (J := J) hb
  generalize (M_nodNow m b J).2 (m + 1) = g at c ⊢
  have s0 : ∀ j, (j < 9 ∨ (11 < j ∧ j < 36) ∨ 66 ≤ j) → g j = J (m + 1) j := fun j hj => by rw [c]; simp (disch := omega) only [if_neg]
  have yk : ∀ y, y < 6 → ∀ w, w < 4 → g (36 + 5 * y + w) = J (m + 1) (36 + 5 * y + w) := fun y hy w hw => by rw [c]; simp (disch := omega) only [if_neg]
  exact ⟨lgf_c hv h (s0 6 (by omega)) (s0 7 (by omega)) (s0 13 (by omega)) (s0 14 (by omega)) (s0 15 (by omega)) (fun y hy => ⟨yk y hy 0 (by decide), yk y hy 3 (by decide)⟩) (fun k hk w h1 h2 => s0 _ (by omega)), s0 0 (by omega), s0 1 (by omega), s0 2 (by omega), s0 4 (by omega), s0 6 (by omega), s0 7 (by omega)⟩
theorem lk_u {k : Nat} {x : Int32} (hv : md_V (J (m + 1))) (hk : k = 5 ∨ k = 11 ∨ k = 3) (h : lgf P (J (m + 1))) : lgf P (ow_u J (m + 1) k x (m + 1)) ∧ kq (J (m + 1)) (ow_u J (m + 1) k x (m + 1)) := by
  have s0 : ∀ j, j ≠ k → ow_u J (m + 1) k x (m + 1) j = J (m + 1) j := fun j hj => by rw [u_one, if_neg hj]
  exact ⟨lgf_c hv h (s0 6 (by omega)) (s0 7 (by omega)) (s0 13 (by omega)) (s0 14 (by omega)) (s0 15 (by omega)) (fun y hy => ⟨s0 _ (by omega), s0 _ (by omega)⟩) (fun k hk w h1 h2 => s0 _ (by omega)), s0 0 (by omega), s0 1 (by omega), s0 2 (by omega), s0 4 (by omega), s0 6 (by omega), s0 7 (by omega)⟩
theorem kq.tr {f g h : Nat → Int32} (p : kq f g) (q : kq g h) : kq f h := ⟨q.1.trans p.1, q.2.1.trans p.2.1, q.2.2.1.trans p.2.2.1, q.2.2.2.1.trans p.2.2.2.1, q.2.2.2.2.1.trans p.2.2.2.2.1, q.2.2.2.2.2.trans p.2.2.2.2.2⟩
theorem lk_close (hP : P < 2 ^ 31) (hv : md_V (J (m + 1))) (hi : iw B (J (m + 1))) (h8 : 0 ≤ J (m + 1) 8) (h : lgf P (J (m + 1))) : lgf P (M_closeBarrel m J (m + 1)) ∧ kq (J (m + 1)) (M_closeBarrel m J (m + 1)) := by
  rcases mV10 hv with q | q
  · exact lk_back hv hi h8 q h
  · exact lk_sell hP hv hi h8 q.1 h
end LK
