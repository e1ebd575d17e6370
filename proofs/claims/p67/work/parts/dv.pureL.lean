/-! A MINUTE IN WHICH A BARREL CLOSES -/
section MTC
variable {x q B : Nat} {I J : ow_I} {f g : Nat → Int32}
theorem mt_fr {x q : Nat} {I J : ow_I} {f g : Nat → Int32} (h : mtH x q I J f g) (h8 : 0 ≤ f 8) : (if L_open q (A_minute x I + nI 1) (A_passMinutes x (nI 1) I).2 then if 0 ≤ A_openBarrel x I then false else true else false) = false := by
  rw [mtL h]
  by_cases c : M_isOpenIn 0 (f 5 + nI 1) (gm f) = true
  · rw [if_pos c, if_pos (show 0 ≤ A_openBarrel x I by rw [show A_openBarrel x I = f 8 from h.hr.2.2.2.1.1]; exact h8)]
  · rw [if_neg c]
theorem mtl_sell (h : mtH x q I J f g) (hs : (A_passMinutes x (nI 1) I).1 = nI 1) (h8 : 0 ≤ f 8) (h10 : 0 ≤ f 10) (g7 : g 7 = f 7) (g6 : g 6 = f 6) (g8 : g 8 = -1) (g12 : g 12 = f 12) (g13 : g 13 = f 13 + f 9) (g14 : g 14 = f 14 + (M_costOfPrice 0 (f 9) (gm f) - f 9))
    (b12 : g (66 + 15 * tn (f 8) + 12) = nI 2) (b13 : g (66 + 15 * tn (f 8) + 13) = nI (tn (f 10))) (b14 : g (66 + 15 * tn (f 8) + 14) = f 9) (y0 : g (36 + 5 * tn (f 10)) = f (36 + 5 * tn (f 10)) - M_costOfPrice 0 (f 9) (gm f)) : mtP J (mtl x q I (true, -1)) := by
  have o8 : A_openBarrel x I = f 8 := h.hr.2.2.2.1.1
  have l10 : A_leader x I = f 10 := h.hr.2.2.2.1.2.1
  have hko : tn (f 8) < tn (f 7) := rl_open (a := 0) (I := gm f) h.hv h8
  have hly : tn (f 10) < tn (f 6) := rl_lead h.hv h10
  have eb : A_bid x I = f 9 := by
    have := h.hr.2.2.2.1.2.2.1
    rw [if_neg (nm1 h10)] at this
    exact this
  obtain ⟨-, -, c7, c8, c9⟩ := rl_bar h.hg (b := tn (f 8)) (by rw [g7]; exact hko)
  have cy := rl_buy h.hg (y := tn (f 10)) (by rw [g6]; exact hly) (w := 0) (by decide)
  have cx := rl_buy h.hr hly (w := 0) (by decide)
  unfold mtl
  dsimp only
  refine ltr (P := mtP J) (if_pos (show (-1 : Int32) < 0 by decide)) ?_
  refine ltr (P := mtP J) rfl ?_
  refine ltr (P := mtP J) rfl ?_
  refine ltr (P := mtP J) (v' := true) (by rw [if_pos rfl, l10, if_neg (i_ge h10)]) ?_
  refine ltr (P := mtP J) rfl ?_
  refine ltr (P := mtP J) (if_pos rfl) ?_
  rw [if_pos (show (A_passMinutes x (nI 1) I).1 = bi true from hs)]
  refine ltr (P := mtP J) (mt13 h) ?_
  rw [if_pos rfl]
  refine ltr (P := mtP J) (v' := true) (by
    rw [h.pm, if_pos rfl, o8, l10, eb, co_eq h.hp]
    rw [if_pos (show A_stateOf x (f 8) J = nI 2 from c7.trans b12)]
    rw [if_pos (show A_buyerOf x (f 8) J = f 10 from (c8.trans b13).trans (nI_tn h10))]
    rw [if_pos (show A_priceOf x (f 8) J = f 9 from c9.trans b14)]
    rw [if_pos (show A_purse x (f 10) J = _ by rw [if_pos h10]; exact (cy.trans y0).trans (by rw [show A_purse x (f 10) I = _ from cx]; rfl))]
    rw [if_pos (show A_sellerCoins x J = A_sellerCoins x I + f 9 from (h.hg.2.1.2.2.2.1.trans g13).trans (by rw [show A_sellerCoins x I = f 13 from h.hr.2.1.2.2.2.1]))]
    rw [if_pos (show A_houseCoins x J = _ from (h.hg.2.1.2.2.2.2.1.trans g14).trans (by rw [show A_houseCoins x I = f 14 from h.hr.2.1.2.2.2.2.1]; grind))]) ?_
  rw [if_pos rfl]
  refine ltr (P := mtP J) (if_pos rfl) ?_
  rw [if_pos rfl]
  refine ltr (P := mtP J) (v' := false) (by rw [if_pos rfl, l10, if_pos h10]) ?_
  refine ltr (P := mtP J) (v' := true) (by rw [if_pos rfl, l10, if_pos h10]) ?_
  rw [if_pos rfl]
  refine ltr (P := mtP J) (mt_fr h h8) ?_
  rw [if_neg (show ¬ false = true by decide), if_pos rfl, h.pm, if_pos (show A_openBarrel x J = -1 from h.hg.2.2.2.1.1.trans g8)]
  refine ltr (P := mtP J) (if_neg (show ¬ false = true by decide)) ?_
  rw [if_pos (show A_queueLength x J = A_queueLength x I + bi false by rw [show A_queueLength x J = g 12 from h.hg.2.2.1.2.2, show A_queueLength x I = f 12 from h.hr.2.2.1.2.2, g12]; exact (Int32.add_zero _).symm), if_neg (show ¬ false = true by decide)]
  exact ⟨rfl, rfl⟩
theorem mtl_back {r : Nat} (h : mtH x q I J f g) (hs : (A_passMinutes x (nI 1) I).1 = 0) (h8 : 0 ≤ f 8) (h10 : f 10 = -1) (er : f (66 + 15 * tn (f 8) + 11) = nI r) (hr2 : r ≤ 2) (g7 : g 7 = f 7) (g8 : g 8 = -1) (g13 : g 13 = f 13) (g14 : g 14 = f 14)
    (b11 : g (66 + 15 * tn (f 8) + 11) = nI (r + 1)) (hA : r = 2 → g (66 + 15 * tn (f 8) + 12) = nI 3 ∧ g 12 = f 12) (hB : r < 2 → g (66 + 15 * tn (f 8) + 12) = nI 0 ∧ g 12 = f 12 + nI 1 ∧ g (16 + tn (f 12)) = nI (tn (f 8))) : mtP J (mtl x q I (true, -1)) := by
  have h12 := h.hv.2.2.2.2.2.1
  have h12' := h.hw.2.2.2.2.2.1
  have o8 : A_openBarrel x I = f 8 := h.hr.2.2.2.1.1
  have l10 : A_leader x I = -1 := h.hr.2.2.2.1.2.1.trans h10
  have hko : tn (f 8) < tn (f 7) := rl_open (a := 0) (I := gm f) h.hv h8
  obtain ⟨-, c6, c7, -, -⟩ := rl_bar h.hg (b := tn (f 8)) (by rw [g7]; exact hko)
  obtain ⟨-, d6, -, -, -⟩ := rl_bar h.hr hko
  have e13 : A_sellerCoins x J = A_sellerCoins x I := (h.hg.2.1.2.2.2.1.trans g13).trans h.hr.2.1.2.2.2.1.symm
  have e14 : A_houseCoins x J = A_houseCoins x I := (h.hg.2.1.2.2.2.2.1.trans g14).trans h.hr.2.1.2.2.2.2.1.symm
  have eR : A_returns x (f 8) J = nI r + nI 1 := by rw [nI_add]; exact c6.trans b11
  unfold mtl
  dsimp only
  refine ltr (P := mtP J) (if_pos (show (-1 : Int32) < 0 by decide)) ?_
  refine ltr (P := mtP J) rfl ?_
  refine ltr (P := mtP J) (v' := nI r) (by rw [o8, if_pos h8]; exact d6.trans er) ?_
  refine ltr (P := mtP J) (v' := false) (by rw [if_pos rfl, l10, if_pos (show (-1 : Int32) < 0 by decide)]) ?_
  refine ltr (P := mtP J) rfl ?_
  refine ltr (P := mtP J) (if_neg (show ¬ false = true by decide)) ?_
  rw [if_pos (show (A_passMinutes x (nI 1) I).1 = bi false from hs)]
  refine ltr (P := mtP J) (mt13 h) ?_
  rw [if_pos rfl]
  refine ltr (P := mtP J) (if_neg (show ¬ false = true by decide)) ?_
  rw [if_pos rfl]
  refine ltr (P := mtP J) (v' := true) (by rw [h.pm, if_neg (show ¬ false = true by decide), if_pos e13, if_pos e14]) ?_
  rw [if_pos rfl]
  by_cases c : r = 2
  · obtain ⟨s1, s2⟩ := hA c
    refine ltr (P := mtP J) (v' := false) (by rw [if_pos rfl, l10, if_neg i_m1, if_pos (nI_rg (by omega) (by omega))]) ?_
    refine ltr (P := mtP J) (v' := true) (by rw [if_pos rfl, l10, if_neg i_m1, h.pm, o8, if_pos eR, if_neg (show ¬ false = true by decide), if_pos (show A_stateOf x (f 8) J = nI 3 from c7.trans s1)]) ?_
    rw [if_pos rfl]
    refine ltr (P := mtP J) (mt_fr h h8) ?_
    rw [if_neg (show ¬ false = true by decide), if_pos rfl, h.pm, if_pos (show A_openBarrel x J = -1 from h.hg.2.2.2.1.1.trans g8)]
    refine ltr (P := mtP J) (if_neg (show ¬ false = true by decide)) ?_
    rw [if_pos (show A_queueLength x J = A_queueLength x I + bi false by rw [show A_queueLength x J = g 12 from h.hg.2.2.1.2.2, show A_queueLength x I = f 12 from h.hr.2.2.1.2.2, s2]; exact (Int32.add_zero _).symm), if_neg (show ¬ false = true by decide)]
    exact ⟨rfl, rfl⟩
  · obtain ⟨s1, s2, s3⟩ := hB (by omega)
    refine ltr (P := mtP J) (v' := true) (by rw [if_pos rfl, l10, if_neg i_m1, if_neg (fun z => absurd ((nI_le' (by decide) (by omega)).mp z) (by omega))]) ?_
    refine ltr (P := mtP J) (v' := true) (by rw [if_pos rfl, l10, if_neg i_m1, h.pm, o8, if_pos eR, if_pos rfl, if_pos (show A_stateOf x (f 8) J = nI 0 from c7.trans s1)]) ?_
    rw [if_pos rfl]
    refine ltr (P := mtP J) (mt_fr h h8) ?_
    rw [if_neg (show ¬ false = true by decide), if_pos rfl, h.pm, if_pos (show A_openBarrel x J = -1 from h.hg.2.2.2.1.1.trans g8)]
    refine ltr (P := mtP J) (if_pos rfl) ?_
    have e12 := (nI_tn h12.1).symm
    have g12 : g 12 = nI (tn (f 12) + 1) := by rw [s2, e12, nI_add, tn_nI (by omega)]
    rw [if_pos (show A_queueLength x J = A_queueLength x I + bi true by rw [show A_queueLength x J = g 12 from h.hg.2.2.1.2.2, show A_queueLength x I = f 12 from h.hr.2.2.1.2.2, s2]; rfl), if_pos rfl]
    rw [if_pos (show A_queuedBarrel x (A_queueLength x I) J = A_openBarrel x I by
      rw [show A_queueLength x I = f 12 from h.hr.2.2.1.2.2, o8]
      unfold A_queuedBarrel
      rw [if_neg (i_ge h12.1), show J (x + 1) 12 = g 12 from h.hg.2.2.1.2.2, if_pos (by rw [g12, e12, tn_nI (by omega)]; exact (nI_lt' (by omega) (by omega)).mpr (by omega))]
      have := h.hg.2.2.2.2.2.1 (tn (f 12)) (by rw [g12, tn_nI (by omega)]; omega)
      rw [this, s3]
      exact nI_tn h8)]
    exact ⟨rfl, rfl⟩
end MTC
