/-! EVERY MINUTE COMES OUT TRUE -/
section MTT
variable {x q B : Nat} {I J : ow_I} {f g : Nat → Int32}
theorem sd_eq (h : ∀ j, j ≠ 5 → j ≠ 11 → g j = f j) (h7 : tn (f 7) ≤ 20) : sdN g (tn (g 7)) = sdN f (tn (f 7)) := by
  rw [h 7 (by decide) (by decide)]
  exact sdN_c _ (fun k hk => by rw [h _ (by omega) (by omega)])
theorem mt_close {J1 : ow_I} (h : mtH x q I J f g) (hk1 : ∀ j, j ≠ 5 → j ≠ 11 → J1 (0 + 1) j = f j) (hv1 : md_V (J1 (0 + 1))) (hi1 : iw B (J1 (0 + 1))) (hl : lgf (1000 + 40 * 100000) f) (hg : g = M_closeBarrel 0 J1 (0 + 1)) (h8 : 0 ≤ f 8) (ho : f (66 + 15 * tn (f 8) + 12) = nI 1) (hs : (A_passMinutes x (nI 1) I).1 = nI (sdN g (tn (g 7))) - nI (sdN f (tn (f 7)))) : mtP J (mtl x q I (true, -1)) := by
  have h6 := h.hv.2.1.2.2
  have h7 := h.hv.2.2.1.2
  have h12 := h.hv.2.2.2.2.2.1
  have hko : tn (f 8) < tn (f 7) := rl_open (a := 0) (I := gm f) h.hv h8
  have q8 := hk1 8 (by decide) (by decide)
  have q10 := hk1 10 (by decide) (by decide)
  have q9 := hk1 9 (by decide) (by decide)
  have q12 := hk1 12 (by decide) (by decide)
  have es := sd_eq hk1 h7
  have ec : M_costOfPrice 0 (J1 (0 + 1) 9) J1 = M_costOfPrice 0 (f 9) (gm f) := by
    unfold M_costOfPrice
    rw [q9, hk1 4 (by decide) (by decide)]
    rfl
  have h81 : 0 ≤ J1 (0 + 1) 8 := by rw [q8]; exact h8
  rcases mV10 h.hv with e | ⟨e1, e2, -⟩
  · have hlt : J1 (0 + 1) 10 < 0 := by rw [q10, e]; decide
    have sb := (iv_back hv1 hi1 h81 (q10.trans e)).2
    rw [es, ← hg] at sb
    rw [sb, nI_sb (Nat.le_refl _), Nat.sub_self] at hs
    have hq' := mdV_q h.hv h8
    obtain ⟨r, er, hr2⟩ := hl.2.2.2.2.2.1 _ hko (Or.inr ho)
    have e11 : J1 (0 + 1) (66 + 15 * tn (J1 (0 + 1) 8) + 11) = nI r := by rw [q8, hk1 _ (by omega) (by omega)]; exact er
    by_cases c3 : r = 2
    · have c := ce_back (m := 0) (J := J1) hlt (by rw [q8]; omega) (by rw [e11, c3]; decide)
      rw [← hg, q8] at c
      refine mtl_back h hs h8 e er hr2 ?_ ?_ ?_ ?_ ?_ (fun _ => ⟨?_, ?_⟩) (fun z => absurd z (by omega))
      · rw [c]; simp (disch := omega) only [if_neg]; exact hk1 7 (by decide) (by decide)
      · rw [c]; simp (disch := omega) only [if_neg, if_pos, if_true]
      · rw [c]; simp (disch := omega) only [if_neg]; exact hk1 13 (by decide) (by decide)
      · rw [c]; simp (disch := omega) only [if_neg]; exact hk1 14 (by decide) (by decide)
      · rw [c]; simp (disch := omega) only [if_neg, if_pos, if_true]; rw [← q8, e11, nI_add]
      · rw [c]; simp (disch := omega) only [if_neg, if_pos, if_true]
      · rw [c]; simp (disch := omega) only [if_neg]; exact q12
    · have c := ce_again (m := 0) (J := J1) hlt (by rw [q8]; omega) (by rw [q12]; exact Nat.lt_of_lt_of_le (show tn (f 12) < 20 by have := hq'; change tn (f 12) < _ at this; omega) (Nat.le_refl _)) (by rw [e11, nI_add]; exact fun z => c3 (by have := (nI_eq (by omega) (by decide)).mp z; omega))
      rw [← hg, q8, q12] at c
      have hq20 : tn (f 12) < 20 := by have := hq'; change tn (f 12) < _ at this; omega
      refine mtl_back h hs h8 e er hr2 ?_ ?_ ?_ ?_ ?_ (fun z => absurd z c3) (fun _ => ⟨?_, ?_, ?_⟩)
      · rw [c]; simp (disch := omega) only [if_neg]; exact hk1 7 (by decide) (by decide)
      · rw [c]; simp (disch := omega) only [if_neg, if_pos, if_true]
      · rw [c]; simp (disch := omega) only [if_neg]; exact hk1 13 (by decide) (by decide)
      · rw [c]; simp (disch := omega) only [if_neg]; exact hk1 14 (by decide) (by decide)
      · rw [c]; simp (disch := omega) only [if_neg, if_pos, if_true]; rw [← q8, e11, nI_add]
      · rw [c]; simp (disch := omega) only [if_neg, if_pos, if_true]
      · rw [c]; simp (disch := omega) only [if_neg, if_pos, if_true]
      · rw [c]; simp (disch := omega) only [if_neg, if_pos, if_true]
  · have sb := (iv_sell hv1 hi1 h81 (by rw [q10]; exact e1)).2
    rw [es, ← hg] at sb
    rw [sb, nI_sb (by omega), Nat.add_sub_cancel_left] at hs
    have c := ce_sell (m := 0) (J := J1) (by rw [q10]; exact i_ge e1) (by rw [q8]; omega) (by rw [q10]; omega)
    rw [← hg, q8, q10, ec, q9] at c
    refine mtl_sell h hs h8 e1 ?_ ?_ ?_ ?_ ?_ ?_ ?_ ?_ ?_ ?_
    · rw [c]; simp (disch := omega) only [if_neg]; exact hk1 7 (by decide) (by decide)
    · rw [c]; simp (disch := omega) only [if_neg]; exact hk1 6 (by decide) (by decide)
    · rw [c]; simp (disch := omega) only [if_neg, if_pos, if_true]
    · rw [c]; simp (disch := omega) only [if_neg]; exact q12
    · rw [c]; simp (disch := omega) only [if_neg, if_pos, if_true]; rw [hk1 13 (by decide) (by decide)]
    · rw [c]; simp (disch := omega) only [if_neg, if_pos, if_true]; rw [hk1 14 (by decide) (by decide)]
    · rw [c]; simp (disch := omega) only [if_neg, if_pos, if_true]
    · rw [c]; simp (disch := omega) only [if_neg, if_pos, if_true]
    · rw [c]; simp (disch := omega) only [if_neg, if_pos, if_true]
    · have := c (36 + 5 * tn (f 10) + 0)
      simp (disch := omega) only [if_neg, if_true] at this
      rw [hk1 _ (by omega) (by omega)] at this
      exact this
theorem minute_true (h : LI B x q I) (hB : B < 100000) : mtP (A_passMinutes x (nI 1) I).2 (L_minute x q I) := by
  obtain ⟨f, hr, hv, hi, hl, hq, hop⟩ := li_to h
  have hX := h.1
  obtain ⟨⟨hr', hv', hi'⟩, hcnt⟩ := pm_st hX hr hv hi (by omega)
  obtain ⟨l1, l2⟩ := lk_pass (m := 0) (J := gm f) (P := 1000 + 40 * B) (by omega) hv hi (by omega) hl
  obtain ⟨p, l, pa, n, ⟨n0, n1, n2, n5, hp, hll, hpa, hn⟩, hc⟩ := po_cases (m := 0) (J := gm f) hv hi (by omega)
  change f 0 = nI p at n0
  change f 1 = nI l at n1
  change f 2 = nI pa at n2
  change f 5 = nI n at n5
  have h7 := hv.2.2.1.2
  have hv1 : md_V (tk1 0 (gm f) (0 + 1)) := tk1_v (J := gm f) (m := 0) hv
  have hi1 : iv (B + 1) (tk1 0 (gm f) (0 + 1)) := tk1_i (J := gm f) (m := 0) hv hi (by omega)
  have tkr : ∀ j, j ≠ 5 → tk1 0 (gm f) (0 + 1) j = f j := fun j hj => by rw [tk1_r, if_neg hj]; rfl
  have tk5 : tk1 0 (gm f) (0 + 1) 5 = f 5 + nI 1 := by rw [tk1_r, if_pos rfl]; rfl
  have qtr : ∀ j, j ≠ 5 → j ≠ 11 → qt1 0 (gm f) (0 + 1) j = f j := fun j hj h11 => by unfold qt1; rw [u_one, if_neg h11]; exact tkr j hj
  have qt5 : qt1 0 (gm f) (0 + 1) 5 = f 5 + nI 1 := by unfold qt1; rw [u_one, if_neg (by decide)]; exact tk5
  have qt11 : qt1 0 (gm f) (0 + 1) 11 = f 11 + nI 1 := by unfold qt1; rw [u_one, if_pos rfl, tkr 11 (by decide)]
  rw [cnt_N (m := 0) (J := M_passOne 0 (gm f)) hv', cnt_N (m := 0) (J := gm f) hv] at hcnt
  change _ = _ - nI (sdN f (tn (f 7))) at hcnt
  have e51 : f 5 + nI 1 = nI (n + 1) := by rw [n5, nI_add]
  have hO : M_isOpenIn 0 (f 5 + nI 1) (gm f) = decide ((n + 1) % p < l) := by rw [e51]; exact opn_N (m := 0) (J := gm f) n0 n1 hp hll.2 (by omega)
  have hb := blow_N (m := 0) (J := gm f) (n := n + 1) n0 n1 hp hll ⟨by omega, by omega⟩
  have aM : A_minute x I = f 5 := hr.1.2.2
  have aO : A_openBarrel x I = f 8 := hr.2.2.2.1.1
  have e55 : (if L_open q (A_minute x I + nI 1) I then false else if L_open q (A_minute x I + nI 1 - nI 1) I then true else false) = decide ((n + 1) % p = l) := by
    rw [← hb, lo_eq hq, lo_eq hq, aM, e51]
    rfl
  have e96 : (if A_minutesToHorn x I = nI 1 then true else false) = decide ((n + 1) % p = l) := by
    have hh := hn_eq (I := I) (t := x + 1 + 1) (hr.1.1.trans n0) (hr.1.2.1.trans n1) (hr.1.2.2.trans n5) hp hll (by omega)
    show (if T_untilHorn (x + 1 + 1) I = nI 1 then true else false) = _
    by_cases c : (n + 1) % p = l
    · rw [if_pos (hh.mpr c), decide_eq_true c]
    · rw [if_neg (fun z => c (hh.mp z)), decide_eq_false c]
  have eL : L_open q (A_minute x I + nI 1) I = decide ((n + 1) % p < l) := by rw [lo_eq hq, aM]; exact hO
  have eJ : (A_passMinutes x (nI 1) I).2 q = I q := by
    have h1 := h.2.2.2.2.1
    rw [pm_eq.1, rr_let (by omega) (kV_rem hX), rr_rem hX (by omega)]
  have mk : M_passOne 0 (gm f) (0 + 1) 5 = f 5 + nI 1 → mtH x q I (A_passMinutes x (nI 1) I).2 f (M_passOne 0 (gm f) (0 + 1)) := fun m5 => by
    refine ⟨rfl, hr, hr', hv, hv', hq, by rw [eJ]; exact hq, m5, ?_⟩
    show T_isLow (x + 1 + 1) _ = _
    rw [low_eq (J := gm (M_passOne 0 (gm f) (0 + 1))) (m := 0) hr'.1.1 hr'.1.2.1 hr'.1.2.2 hi']
    show M_isOpenIn 0 (M_passOne 0 (gm f) (0 + 1) 5) (gm (M_passOne 0 (gm f) (0 + 1))) = _
    rw [m5]
    unfold M_isOpenIn
    rw [show gm (M_passOne 0 (gm f) (0 + 1)) (0 + 1) 1 = f 1 from l2.2.1, show gm (M_passOne 0 (gm f) (0 + 1)) (0 + 1) 0 = f 0 from l2.1]
    rfl
  have hl9 : lgf (1000 + 40 * 100000) f := lgf_mono hl (by omega)
  unfold L_minute
  refine ltr (P := mtP _) e55 ?_
  try dsimp only
  rcases hc with ⟨hc, hq1⟩ | ⟨hc, hq1⟩ | ⟨hc, hq1⟩
  · -- the horn
    rw [decide_eq_true hc]
    have eL' : L_open q (A_minute x I + nI 1) I = false := by rw [eL, decide_eq_false (by omega)]
    have hO' : ¬ M_isOpenIn 0 (f 5 + nI 1) (gm f) = true := by rw [hO, decide_eq_false (by omega)]; decide
    rcases hq1 with ⟨h8, e⟩ | ⟨h8, e⟩
    · change f 8 = -1 at h8
      rw [e] at hcnt mk
      refine ltr (P := mtP _) (v' := false) (by rw [if_pos rfl, aO, if_pos (by rw [h8]; decide)]) ?_
      try dsimp only
      refine ltr (P := mtP _) (e96.trans (decide_eq_true hc)) ?_
      try dsimp only
      rw [if_pos rfl]
      refine ltr (P := mtP _) (v' := (false, -1)) (by rw [eL', if_neg (by decide)]) ?_
      refine mtl_stay (mk tk5) ?_ (fun j h1 _ => tkr j h1) (fun z => absurd z hO') (fun z => absurd z (by rw [h8]; exact i_m1))
      rw [hcnt, sd_eq (fun j h1 _ => tkr j h1) h7, nI_sb (Nat.le_refl _), Nat.sub_self]; rfl
    · change 0 ≤ f 8 at h8
      rw [e] at hcnt mk
      refine ltr (P := mtP _) (v' := true) (by rw [if_pos rfl, aO, if_neg (i_ge h8)]) ?_
      try dsimp only
      refine ltr (P := mtP _) (e96.trans (decide_eq_true hc)) ?_
      try dsimp only
      rw [if_pos rfl]
      refine ltr (P := mtP _) (v' := (true, -1)) (by rw [eL', if_neg (by decide)]) ?_
      have ho : f (66 + 15 * tn (f 8) + 12) = nI 1 := (hi.2.2.2.1 h8).1
      refine mt_close (mk ?_) (fun j h1 _ => tkr j h1) hv1 (iv_w hi1) hl9 rfl h8 ho hcnt
      have k5 := (lk_c5 (J := tk1 0 (gm f)) (m := 0) hv1 (by rw [tkr 8 (by decide)]; exact h8))
      rw [k5]; exact tk5
  · -- open
    rw [decide_eq_false (show ¬ (n + 1) % p = l by omega)]
    have eL' : L_open q (A_minute x I + nI 1) I = true := by rw [eL, decide_eq_true hc]
    have hO' : M_isOpenIn 0 (f 5 + nI 1) (gm f) = true := by rw [hO, decide_eq_true hc]
    refine ltr (P := mtP _) (v' := false) (by rw [if_neg (by decide)]) ?_
    try dsimp only
    refine ltr (P := mtP _) (e96.trans (decide_eq_false (show ¬ (n + 1) % p = l by omega))) ?_
    try dsimp only
    rw [if_pos rfl]
    rcases hq1 with ⟨h8, e⟩ | ⟨q0, eq0, hq0, h8, ht, hc2⟩ | ⟨y, h8, ht, hy, hre, e⟩
    · change f 8 = -1 at h8
      rw [e] at hcnt mk
      refine ltr (P := mtP _) (v' := (false, -1)) (by rw [eL', if_pos rfl, aO, if_pos (by rw [h8]; decide)]) ?_
      have so := (iv_opn (m := 0) (J := tk1 0 (gm f)) hv1 hi1 (by rw [tkr 8 (by decide)]; exact h8)).2
      rw [so, sd_eq (fun j h1 _ => tkr j h1) h7, nI_sb (Nat.le_refl _), Nat.sub_self] at hcnt
      by_cases c0 : tn (f 12) = 0
      · have eo : M_openFirst 0 (tk1 0 (gm f)) = tk1 0 (gm f) := by
          unfold M_openFirst
          rw [if_pos (by rw [tkr 12 (by decide)]; exact c0)]
        rw [eo] at mk
        exact mtl_open (mk tk5) hcnt hO' h8 (fun _ j hj => tkr j hj) (fun z => absurd c0 z)
      · have ce := ce_open (m := 0) (J := tk1 0 (gm f)) hv1 (by rw [tkr 12 (by decide)]; exact c0)
        rw [tkr 16 (by decide), tkr 12 (by decide)] at ce
        have hqq : 0 ≤ f 16 ∧ tn (f 16) < tn (f 7) ∧ f (66 + 15 * tn (f 16) + 12) = 0 := q0_V (J := gm f) (m := 0) hv c0
        refine mtl_open (mk ?_) hcnt hO' h8 (fun z => absurd z c0) (fun _ => ⟨fun j hj h5 => ?_, ?_, ?_, ?_, ?_, ?_, ?_⟩)
        · rw [ce]; simp (disch := omega) only [if_neg]; exact tk5
        · rw [ce]; simp (disch := omega) only [if_neg]; exact tkr j h5
        · rw [ce]; simp (disch := omega) only [if_neg, if_pos, if_true]; exact nI_tn hqq.1
        · rw [ce]; simp (disch := omega) only [if_neg, if_pos, if_true]
        · rw [ce]; simp (disch := omega) only [if_neg, if_pos, if_true]
        · rw [ce]; simp (disch := omega) only [if_neg, if_pos, if_true]
        · rw [ce]; simp (disch := omega) only [if_neg]; exact tkr 13 (by decide)
        · rw [ce]; simp (disch := omega) only [if_neg]; exact tkr 14 (by decide)
    · change f 11 = nI q0 at eq0
      change 0 ≤ f 8 at h8
      have aQ : A_quiet x I = f 11 := by
        have := hr.2.2.2.1.2.2.2
        rw [if_neg (nm1 h8)] at this
        exact this
      have eqq : A_quiet x I + nI 1 = nI (q0 + 1) := by rw [aQ, eq0, nI_add]
      have eqp : I q 2 = nI pa := hq.2.2.1.trans n2
      have hlm := lm_eq h hr hv hi (by omega) hq h8 hO' (A_minute x I + nI 1) (A_bid x I) (A_quiet x I) (A_queueLength x I) (A_queuedBarrel x (nI 0) I) (A_sellerCoins x I) (A_houseCoins x I) false
      rw [ht] at hlm
      have ho : f (66 + 15 * tn (f 8) + 12) = nI 1 := (hi.2.2.2.1 h8).1
      rcases hc2 with ⟨hw, e⟩ | ⟨hw, e⟩
      · rw [e] at hcnt mk
        refine ltr (P := mtP _) (v' := (true, -1)) (by
          rw [eL', if_pos rfl, if_neg (show ¬ A_openBarrel x I < 0 by rw [aO]; exact i_ge h8), hlm]
          simp only [lt]
          rw [if_neg i_m1, eqq, eqp, if_neg (by rw [hw]; exact fun z => Int32.lt_irrefl z)]) ?_
        have hv2 : md_V (qt1 0 (gm f) (0 + 1)) := V_row hv1 _ (Or.inr (Or.inl rfl))
        refine mt_close (mk ?_) qtr hv2 (iw_q1 hv1 hi1) hl9 rfl h8 ho hcnt
        rw [lk_c5 (J := qt1 0 (gm f)) (m := 0) hv2 (by rw [qtr 8 (by decide) (by decide)]; exact h8)]; exact qt5
      · rw [e] at hcnt mk
        refine ltr (P := mtP _) (v' := (false, -1)) (by
          rw [eL', if_pos rfl, if_neg (show ¬ A_openBarrel x I < 0 by rw [aO]; exact i_ge h8), hlm]
          simp only [lt]
          rw [if_neg i_m1, eqq, eqp, if_pos ((nI_lt' (by omega) (by omega)).mpr (by omega))]) ?_
        refine mtl_stay (mk qt5) ?_ qtr (fun _ => h8) (fun _ => qt11)
        rw [hcnt, sd_eq qtr h7, nI_sb (Nat.le_refl _), Nat.sub_self]; rfl
    · change 0 ≤ f 8 at h8
      change y < tn (f 6) at hy
      have h6 := hv.2.1.2.2
      have hlm := lm_eq h hr hv hi (by omega) hq h8 hO' (A_minute x I + nI 1) (A_bid x I) (A_quiet x I) (A_queueLength x I) (A_queuedBarrel x (nI 0) I) (A_sellerCoins x I) (A_houseCoins x I) false
      rw [ht] at hlm
      rw [e] at hcnt mk
      refine ltr (P := mtP _) (v' := (false, nI y)) (by
        rw [eL', if_pos rfl, if_neg (show ¬ A_openBarrel x I < 0 by rw [aO]; exact i_ge h8), hlm]
        simp only [lt]
        rw [if_pos (nI_ge0 (by omega))]) ?_
      have c := ce_nod (m := 0) (J := tk1 0 (gm f)) (b := y) (by omega)
      have eb : M_bidNext 0 (tk1 0 (gm f)) = M_bidNext 0 (gm f) := by
        unfold M_bidNext M_ofBarrel
        rw [tkr 10 (by decide), tkr 8 (by decide), tkr 9 (by decide), tkr 3 (by decide), tkr _ (by omega)]
        rfl
      have s7 : sdN ((M_nodNow 0 y (tk1 0 (gm f))).2 (0 + 1)) (tn ((M_nodNow 0 y (tk1 0 (gm f))).2 (0 + 1) 7)) = sdN f (tn (f 7)) := by
        have c7 : (M_nodNow 0 y (tk1 0 (gm f))).2 (0 + 1) 7 = f 7 := by rw [c]; simp (disch := omega) only [if_neg]; exact tkr 7 (by decide)
        rw [c7]
        exact sdN_c _ (fun k hk => by rw [c]; simp (disch := omega) only [if_neg]; rw [tkr _ (by omega)])
      rw [s7, nI_sb (Nat.le_refl _), Nat.sub_self] at hcnt
      refine mtl_nod (B := B) (mk ?_) hi hcnt hy h8 (fun j h5 h9 h10 h11 hj => ?_) ?_ ?_ ?_
      · rw [c]; simp (disch := omega) only [if_neg]; exact tk5
      · rw [c]; simp (disch := omega) only [if_neg]; exact tkr j h5
      · rw [c]; simp (disch := omega) only [if_neg, if_pos, if_true]; exact eb
      · rw [c]; simp (disch := omega) only [if_neg, if_pos, if_true]
      · rw [c]; simp (disch := omega) only [if_neg, if_pos, if_true]
  · -- closed
    rw [decide_eq_false (show ¬ (n + 1) % p = l by omega)]
    have eL' : L_open q (A_minute x I + nI 1) I = false := by rw [eL, decide_eq_false (by omega)]
    have hO' : ¬ M_isOpenIn 0 (f 5 + nI 1) (gm f) = true := by rw [hO, decide_eq_false (by omega)]; decide
    refine ltr (P := mtP _) (v' := false) (by rw [if_neg (by decide)]) ?_
    try dsimp only
    refine ltr (P := mtP _) (e96.trans (decide_eq_false (show ¬ (n + 1) % p = l by omega))) ?_
    try dsimp only
    rw [if_pos rfl]
    rw [hq1] at hcnt mk
    refine ltr (P := mtP _) (v' := (false, -1)) (by rw [eL', if_neg (by decide)]) ?_
    have h8 : ¬ 0 ≤ f 8 := fun z => by
      have := hop z
      change M_isOpenIn 0 (f 5) (gm f) = true at this
      rw [n5, opn_N (m := 0) (J := gm f) n0 n1 hp hll.2 (by omega)] at this
      have hlt := of_decide_eq_true this
      have hm : (n + 1) % p = if n % p + 1 = p then 0 else n % p + 1 := by
        rw [Nat.add_mod, Nat.mod_eq_of_lt (show 1 < p by omega)]
        have := Nat.mod_lt n (show 0 < p by omega)
        split
        · rename_i e; rw [e, Nat.mod_self]
        · exact Nat.mod_eq_of_lt (by omega)
      rw [hm] at hc
      split at hc <;> omega
    refine mtl_stay (mk tk5) ?_ (fun j h1 _ => tkr j h1) (fun z => absurd z hO') (fun z => absurd z h8)
    rw [hcnt, sd_eq (fun j h1 _ => tkr j h1) h7, nI_sb (Nat.le_refl _), Nat.sub_self]; rfl
end MTT
