/-! THE ACTS, ONE BY ONE -/
section ACT
variable {x q B y : Nat} {I : ow_I} {f g : Nat → Int32}
theorem op_c (h0 : g 0 = f 0) (h1 : g 1 = f 1) (h5 : g 5 = f 5) (h8 : g 8 = f 8) (h : 0 ≤ f 8 → M_isOpenNow 0 (fun _ => f) = true) : 0 ≤ g 8 → M_isOpenNow 0 (fun _ => g) = true := fun z => by
  have := h (h8 ▸ z)
  unfold M_isOpenNow M_isOpenIn at this ⊢
  rw [show (fun _ => g : ow_I) (0 + 1) 5 = f 5 from h5, show (fun _ => g : ow_I) (0 + 1) 1 = f 1 from h1, show (fun _ => g : ow_I) (0 + 1) 0 = f 0 from h0]
  exact this
theorem iv_mono {B' : Nat} (h : iv B f) (hB : B ≤ B') : iv B' f := by
  obtain ⟨⟨h1, h2, h3, h4, n, h5, h6⟩, h7⟩ := h
  exact ⟨⟨h1, h2, h3, h4, n, h5, by omega⟩, h7⟩
theorem rr_pc {a b : Nat} {x c : Int32} {I : ow_I} (h : b < a ∨ a + 51 ≤ b) (h8 : tn (I a 8) ≤ 6) (h0 : 0 ≤ I a 8) : K_putCoins a x c I b = I b := by
  unfold K_putCoins
  split
  · rename_i hb
    simp only [lt]
    have : tn x < 6 := by
      unfold K_hasBuyer at hb
      by_cases c1 : x < 0
      · rw [if_pos c1] at hb; exact absurd hb (by decide)
      · rw [if_neg c1] at hb
        by_cases c2 : I a 8 ≤ x
        · rw [if_pos c2] at hb; exact absurd hb (by decide)
        · have := (lt_tn (i_lt c2) (Int32.not_lt.mp c1)).2
          omega
    funext k
    rw [ow_u_a _ _ _ _ (by omega), ow_u_a _ _ _ _ (by omega)]
  · rfl
theorem act_stp (h : LI B x q I) {s : Nat} (h1 : 1 ≤ s) (h2 : s ≤ 50) : LI B x q (A_setStep x (nI s) I).2 ∧ (A_setStep x (nI s) I).1 = A_step x I ∧ (A_setStep x (nI s) I).2 (x + 1) 8 = I (x + 1) 8 ∧ ∀ i w, (A_setStep x (nI s) I).2 (x + 1 + 5 + i) w = H_remember (x + 103) (x + 1) I (x + 1 + 5 + i) w := by
  obtain ⟨f, hr, hv, hi, hl, hq, hop⟩ := li_to h
  have hX := h.1
  have hst := st_stp (a := x + 1) (m := 0) (B := B) (I := H_remember (x + 103) (x + 1) I) (J := gm f) (x := nI s) ⟨rl_rem hX hr hv, hv, hi⟩ ⟨s, rfl, h1, h2⟩
  obtain ⟨l1, l2⟩ := lk_u (m := 0) (J := gm f) (k := 3) (x := nI s) hv (Or.inr (Or.inr rfl)) hl
  have e : ∀ j, j ≠ 3 → ow_u (gm f) (0 + 1) 3 (nI s) (0 + 1) j = f j := fun j hj => by rw [u_one, if_neg hj]; rfl
  have eJ : (A_setStep x (nI s) I).2 = ow_u (H_remember (x + 103) (x + 1) I) (x + 1) 2 (nI s) := rfl
  rw [eJ]
  refine ⟨li_next hX (fun b hb => ?_) (kV_a (kV_rem hX) (by decide)) hst.1 hst.2.1 hst.2.2 l1 l2.four hq h.2.2.2.2.1 h.2.2.2.2.2.1 (op_c (e 0 (by decide)) (e 1 (by decide)) (e 5 (by decide)) (e 8 (by decide)) hop), ?_, ?_, fun i w => ?_⟩
  · funext k; exact ow_u_a _ _ _ _ (by omega) k
  · show H_remember (x + 103) (x + 1) I (x + 1) 2 = I (x + 1) 2
    rw [rr_rem hX (by omega)]
  · rw [ow_u_k _ _ _ _ (by decide), rr_rem hX (by omega)]
  · exact ow_u_a _ _ _ _ (by omega) w
theorem act_tst (h : LI B x q I) (hy : y < tn (I (x + 1) 8)) {s u : Nat} : LI B x q (A_setTaste x (nI y) (nI s) (nI u) I).2 ∧ (A_setTaste x (nI y) (nI s) (nI u) I).1 = A_style x (nI y) I := by
  obtain ⟨f, hr, hv, hi, hl, hq, hop⟩ := li_to h
  have hX := h.1
  have h6 := hv.2.1.2.2
  have hy' : y < tn (f 6) := by rw [← hr.2.2.1.1]; exact hy
  have ty : tn (nI y) = y := tn_nI (by omega)
  have hst := st_tst (a := x + 1) (m := 0) (B := B) (b := y) (I := H_remember (x + 103) (x + 1) I) (J := gm f) (x := nI s) (y := nI u) ⟨rl_rem hX hr hv, hv, hi⟩ hy'
  have e : ∀ j, j ≠ 36 + 5 * y + 1 → j ≠ 36 + 5 * y + 2 → M_put 0 y 2 (nI u) (M_put 0 y 1 (nI s) (gm f)) (0 + 1) j = f j := fun j h1 h2 => by
    simp only [M_put, lt_eq]
    rw [u_one, if_neg h2, u_one, if_neg h1]; rfl
  have eJ : (A_setTaste x (nI y) (nI s) (nI u) I).2 = ow_u (ow_u (H_remember (x + 103) (x + 1) I) (x + 1 + 5 + y) 1 (nI s)) (x + 1 + 5 + y) 2 (nI u) := by
    show ow_u (ow_u _ (x + 1 + 5 + tn (nI y)) 1 _) (x + 1 + 5 + tn (nI y)) 2 _ = _
    rw [ty]
  rw [eJ]
  refine ⟨li_next hX (fun b hb => ?_) ?_ hst.1 hst.2.1 hst.2.2 (lgf_c hv hl (e 6 (by omega) (by omega)) (e 7 (by omega) (by omega)) (e 13 (by omega) (by omega)) (e 14 (by omega) (by omega)) (e 15 (by omega) (by omega)) (fun z hz => ⟨e _ (by omega) (by omega), e _ (by omega) (by omega)⟩) (fun k hk w w1 w2 => e _ (by omega) (by omega))) ⟨e 0 (by omega) (by omega), e 1 (by omega) (by omega), e 2 (by omega) (by omega), e 4 (by omega) (by omega)⟩ hq h.2.2.2.2.1 h.2.2.2.2.2.1 (op_c (e 0 (by omega) (by omega)) (e 1 (by omega) (by omega)) (e 5 (by omega) (by omega)) (e 8 (by omega) (by omega)) hop), ?_⟩
  · funext k
    rw [ow_u_a _ _ _ _ (by omega), ow_u_a _ _ _ _ (by omega)]
  · exact kV_row (kV_row (kV_rem hX) (by omega) (by omega) (Or.inl (fun i hi => by omega))) (by omega) (by omega) (Or.inl (fun i hi => by omega))
  · show H_remember (x + 103) (x + 1) I (x + 1 + 5 + tn (nI y)) 1 = I (x + 1 + 5 + tn (nI y)) 1
    rw [ty, rr_rem hX (by omega)]
theorem act_fund (h : LI B x q I) (hB : B ≤ 2000) (hy : y < tn (I (x + 1) 8)) {c : Nat} (h1 : 1 ≤ c) (h2 : c ≤ 300) : LI (B + 8) x q (A_fund x (nI y) (nI c) I).2 ∧ (A_fund x (nI y) (nI c) I).1 = A_purse x (nI y) I + nI c := by
  obtain ⟨f, hr, hv, hi, hl, hq, hop⟩ := li_to h
  have hX := h.1
  have h6 := hv.2.1.2.2
  have h7 := hv.2.2.1.2
  have hy' : y < tn (f 6) := by rw [← hr.2.2.1.1]; exact hy
  have ty : tn (nI y) = y := tn_nI (by omega)
  obtain ⟨hst, hans⟩ := st_fund (a := x + 1) (m := 0) (B := B) (b := y) (I := H_remember (x + 103) (x + 1) I) (J := gm f) (x := nI c) ⟨rl_rem hX hr hv, hv, hi⟩ hy' ⟨c, rfl, by omega⟩
  obtain ⟨cy, ecy, hcy⟩ := hl.2.2.2.2.2.2 y hy'
  have hnc : ¬ nI 99999 - M_of 0 y 0 (gm f) ≤ nI c := by
    unfold M_of
    rw [show gm f (0 + 1) (36 + 5 * y + 0) = nI cy from ecy, nI_sb (by omega)]
    exact fun z => absurd ((nI_le' (by omega) (by omega)).mp z) (by omega)
  have eM : ∀ j, (M_fundNow 0 y (nI c) (gm f)).2 (0 + 1) j = if j = 15 then f 15 + nI c else if j = 36 + 5 * y + 0 then f (36 + 5 * y) + nI c else f j := fun j => by
    unfold M_fundNow
    rw [if_neg hnc]
    simp only [M_put, M_of, lt_eq]
    simp (disch := omega) only [u_one, if_neg, if_pos, if_true]
    rfl
  have s0 : ∀ j, j ≠ 15 → j ≠ 36 + 5 * y → (M_fundNow 0 y (nI c) (gm f)).2 (0 + 1) j = f j := fun j a b => by rw [eM, if_neg a, if_neg (show ¬ j = 36 + 5 * y + 0 from b)]
  have s15 : (M_fundNow 0 y (nI c) (gm f)).2 (0 + 1) 15 = f 15 + nI c := by rw [eM, if_pos rfl]
  have sy : (M_fundNow 0 y (nI c) (gm f)).2 (0 + 1) (36 + 5 * y) = f (36 + 5 * y) + nI c := by rw [eM, if_neg (by omega), if_pos (show 36 + 5 * y = 36 + 5 * y + 0 from rfl)]
  have ans : (M_fundNow 0 y (nI c) (gm f)).1 = f (36 + 5 * y) + nI c := by
    unfold M_fundNow
    rw [if_neg hnc]
    simp only [M_put, M_of, lt_eq]
    simp (disch := omega) only [u_one, if_neg, if_pos, if_true]
    rfl
  have eJ : (A_fund x (nI y) (nI c) I).2 = K_putCoins (x + 1) (nI y) (nI c) (H_remember (x + 103) (x + 1) I) := rfl
  obtain ⟨q1, q2, q3, q4, q5, q6, q7⟩ := hl
  have hlg : lgf (1000 + 40 * (B + 8)) ((M_fundNow 0 y (nI c) (gm f)).2 (0 + 1)) := by
    generalize (M_fundNow 0 y (nI c) (gm f)).2 (0 + 1) = g at s0 s15 sy
    unfold lgf
    rw [s0 6 (by omega) (by omega), s0 7 (by omega) (by omega), s0 13 (by omega) (by omega), s0 14 (by omega) (by omega), s15]
    refine ⟨fun b hb hs => ?_, fun b hb hs => ?_, fun z hz => ?_, ?_, ?_, fun b hb hs => ?_, fun z hz => ?_⟩
    · rw [s0 _ (by omega) (by omega)] at hs; rw [s0 _ (by omega) (by omega)]; exact q1 b hb hs
    · rw [s0 _ (by omega) (by omega)] at hs; rw [s0 _ (by omega) (by omega), s0 _ (by omega) (by omega)]; exact q2 b hb hs
    · rw [s0 _ (by omega) (by omega), q3 z hz, zB_c _ (fun k hk => ⟨s0 _ (by omega) (by omega), s0 _ (by omega) (by omega)⟩)]
    · rw [q4, zP_c _ (fun k hk => ⟨s0 _ (by omega) (by omega), s0 _ (by omega) (by omega)⟩)]
    · rw [zS_1 (x := nI c) (y0 := y) sy _ (fun k hk hne => s0 _ (by omega) (by omega)), if_pos hy', rg_2]; exact q5
    · rw [s0 _ (by omega) (by omega)] at hs; rw [s0 _ (by omega) (by omega)]; exact q6 b hb hs
    · by_cases e : z = y
      · subst e
        exact ⟨cy + c, by rw [sy, ecy, nI_add], by omega⟩
      · rw [s0 _ (by omega) (by omega)]
        obtain ⟨c', e1, e2⟩ := q7 z hz
        exact ⟨c', e1, by omega⟩
  have e := s0
  refine ⟨?_, ?_⟩
  · rw [eJ]
    have hi8 : iv (B + 8) ((M_fundNow 0 y (nI c) (gm f)).2 (0 + 1)) := iv_mono hst.2.2 (by omega)
    exact li_next hX (fun b hb => rr_pc (by omega) (kV_rem hX).1.2 (kV_rem hX).1.1) (kV_put (kV_rem hX)) hst.1 hst.2.1 hi8 hlg ⟨e 0 (by omega) (by omega), e 1 (by omega) (by omega), e 2 (by omega) (by omega), e 4 (by omega) (by omega)⟩ hq h.2.2.2.2.1 (by omega) (op_c (e 0 (by omega) (by omega)) (e 1 (by omega) (by omega)) (e 5 (by omega) (by omega)) (e 8 (by omega) (by omega)) hop)
  · show K_putCoins (x + 1) (nI y) (nI c) (H_remember (x + 103) (x + 1) I) (x + 1 + 5 + tn (nI y)) 0 = I (x + 1 + 5 + tn (nI y)) 0 + nI c
    rw [ty, hans, ans, rl_buy hr hy' (by decide)]
    rfl
theorem li_mono {B' : Nat} (h : LI B x q I) (hB : B ≤ B') (h2 : B' ≤ 100000) : LI B' x q I := by
  obtain ⟨h1, h3, ⟨f, hr, hv, hi⟩, hl, h4, h5, h6⟩ := h
  exact ⟨h1, h3, ⟨f, hr, hv, iv_mono hi hB⟩, ⟨hl.1, hl.2.1, hl.2.2.1, hl.2.2.2.1, hl.2.2.2.2.1, hl.2.2.2.2.2.1, fun z hz => by
    obtain ⟨c, e1, e2⟩ := hl.2.2.2.2.2.2 z hz
    exact ⟨c, e1, by omega⟩⟩, h4, h2, h6⟩
theorem act_nod (h : LI B x q I) (hy : y < tn (I (x + 1) 8)) : A_whyNotNod x (nI y) I = L_reason x q (nI y) I ∧ LI B x q (L_nod x (nI y) I).2 ∧ (L_nod x (nI y) I).2 (x + 1) 8 = I (x + 1) 8 ∧ (L_reason x q (nI y) I = 0 → (L_nod x (nI y) I).1 = A_nextBid x I ∧ A_leader x (L_nod x (nI y) I).2 = nI y ∧ A_bid x (L_nod x (nI y) I).2 = A_nextBid x I ∧ A_quiet x (L_nod x (nI y) I).2 = 0 ∧ A_nods x (nI y) (L_nod x (nI y) I).2 = A_nods x (nI y) I + nI 1) ∧ (¬ L_reason x q (nI y) I = 0 → L_nod x (nI y) I = (-100, I)) := by
  obtain ⟨f, hr, hv, hi, hl, hq, hop⟩ := li_to h
  have hX := h.1
  have h6 := hv.2.1.2.2
  have hy' : y < tn (f 6) := by rw [← hr.2.2.1.1]; exact hy
  have ty : tn (nI y) = y := tn_nI (by omega)
  have eW : A_whyNotNod x (nI y) I = M_reasonAgainst 0 y (gm f) := ref_eq (J := gm f) (m := 0) hr hv hi hy'
  have eR := lr_eq hr hv hq hy'
  have eK : K_refusal (x + 1) (nI y) I = M_reasonAgainst 0 y (gm f) := eW
  rw [eR]
  refine ⟨eW, ?_⟩
  by_cases c : M_reasonAgainst 0 y (gm f) = 0
  · have h8 : 0 ≤ f 8 := by
      refine Classical.byContradiction (fun z => ?_)
      unfold M_reasonAgainst at c
      rw [if_neg (show ¬ 0 ≤ gm f (0 + 1) 8 from z)] at c
      split at c <;> exact absurd c (by decide)
    have eN : L_nod x (nI y) I = (K_takeNod (x + 1) (nI y) (H_remember (x + 103) (x + 1) I) (x + 1) 14, K_takeNod (x + 1) (nI y) (H_remember (x + 103) (x + 1) I)) := by
      unfold L_nod A_nod
      rw [eK, if_pos c]
      rfl
    have hr2 := rl_nod (a := x + 1) (m := 0) (b := y) (I := H_remember (x + 103) (x + 1) I) (J := gm f) (rl_rem hX hr hv) hv h8 hy'
    have hv2 := V_nodNow (m := 0) (b := y) (I := gm f) hv h8 hy'
    have hi2 := iv_nod (m := 0) (b := y) (J := gm f) hv hi h8 hy' c
    obtain ⟨l1, l2⟩ := lk_nod (m := 0) (J := gm f) (b := y) hv (by omega) hl
    have ce := ce_nod (m := 0) (J := gm f) (b := y) (by omega)
    have np : A_nextBid x I = M_bidNext 0 (gm f) := np_eq (J := gm f) (m := 0) hr hv h8
    rw [eN]
    generalize hg : (M_nodNow 0 y (gm f)).2 (0 + 1) = g at *
    have g8 : g 8 = f 8 := by rw [ce]; simp (disch := omega) only [if_neg]; rfl
    have g5 : g 5 = f 5 := by rw [ce]; simp (disch := omega) only [if_neg]; rfl
    have g9 : g 9 = M_bidNext 0 (gm f) := by rw [ce]; simp (disch := omega) only [if_neg, if_pos, if_true]
    have g10 : g 10 = nI y := by rw [ce]; simp (disch := omega) only [if_neg, if_pos, if_true]
    have g11 : g 11 = nI 0 := by rw [ce]; simp (disch := omega) only [if_neg, if_pos, if_true]
    have g4 : g (36 + 5 * y + 4) = f (36 + 5 * y + 4) + nI 1 := by rw [ce]; simp (disch := omega) only [if_neg, if_pos, if_true]; rfl
    have eb : K_takeNod (x + 1) (nI y) (H_remember (x + 103) (x + 1) I) (x + 1) 14 = M_bidNext 0 (gm f) := by
      rw [hr2.2.2.2.1.2.2.1, g10, if_neg (nm1 (nI_ge0 (by omega))), g9]
    refine ⟨li_next hX (fun b hb => rr_nod (by omega) (kV_rem hX)) (kV_nod (kV_rem hX)) hr2 hv2 hi2 l1 l2.four hq h.2.2.2.2.1 h.2.2.2.2.2.1 (op_c l2.1 l2.2.1 g5 g8 hop), ?_, fun _ => ⟨?_, ?_, ?_, ?_, ?_⟩, fun z => absurd c z⟩
    · show K_takeNod (x + 1) (nI y) (H_remember (x + 103) (x + 1) I) (x + 1) 8 = I (x + 1) 8
      rw [hr2.2.2.1.1, hr.2.2.1.1]; exact l2.2.2.2.2.1
    · rw [np]; exact eb
    · exact hr2.2.2.2.1.2.1.trans g10
    · rw [np]; exact eb
    · show K_takeNod (x + 1) (nI y) (H_remember (x + 103) (x + 1) I) (x + 1) 16 = 0
      rw [hr2.2.2.2.1.2.2.2, g8, if_neg (nm1 h8), g11]; rfl
    · show K_takeNod (x + 1) (nI y) (H_remember (x + 103) (x + 1) I) (x + 1 + 5 + tn (nI y)) 4 = I (x + 1 + 5 + tn (nI y)) 4 + nI 1
      rw [ty, rl_buy hr2 (by rw [l2.2.2.2.2.1]; exact hy') (by decide), g4, rl_buy hr hy' (by decide)]
  · have eN : L_nod x (nI y) I = (-100, I) := by
      unfold L_nod A_nod
      rw [eK, if_neg c]
      rfl
    rw [eN]
    exact ⟨h, rfl, fun z => absurd z c, fun _ => rfl⟩
end ACT
