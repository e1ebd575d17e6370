/-! A CUT -/
section CUT
variable {m x q B b e : Nat} {I J : ow_I} {f g : Nat → Int32}
theorem alo_e {y : Nat} (h : y < 2 ^ 30) (I' : ow_I) : M_atLeastOne (nI y) I' = nI (max 1 y) := by
  unfold M_atLeastOne
  by_cases c : 1 ≤ y
  · rw [if_pos (nI_rg c (by omega)), Nat.max_eq_right c]
  · rw [if_neg (fun z => c ((nI_le' (by decide) (by omega)).mp z)), Nat.max_eq_left (by omega)]
theorem sp_cells (hv : md_V (J (m + 1))) (hi : iv B (J (m + 1))) (hb : b < tn (J (m + 1) 7)) (h20 : tn (J (m + 1) 7) < 20) (he : 1 ≤ e ∧ e ≤ 8) (hT : e < tn (J (m + 1) (66 + 15 * b))) : ∃ r : Nat, J (m + 1) (66 + 15 * b + 10) = nI r ∧ 1 ≤ r ∧ r ≤ 999 ∧ (M_splitNow m b e J).1 = tn (J (m + 1) 7) ∧
    ∀ k, (M_splitNow m b e J).2 (m + 1) k = if k = 66 + 15 * b + 10 then nI (max 1 (r - r * e / tn (J (m + 1) (66 + 15 * b)))) else if k = 66 + 15 * b then nI (tn (J (m + 1) (66 + 15 * b)) - e) else md_fill ((M_newBarrel m (nI (max 1 (r * e / tn (J (m + 1) (66 + 15 * b))))) J).2 (m + 1)) (tn (J (m + 1) 7)) 0 (fun j => J (m + 1) (66 + 15 * b + (1 + (tn (J (m + 1) (66 + 15 * b)) - e + j)))) e k := by
  have h7b := hv.2.2.1
  have heb := hv.2.2.2.2.2.2.2.2.2 b hb
  have hik := hi.2.2.1 b hb
  obtain ⟨⟨r, er, r1, r2⟩, -, -, hlen⟩ := hik
  have er : J (m + 1) (66 + 15 * b + 10) = nI r := er
  have hre : r * e ≤ 999 * 8 := Nat.mul_le_mul r2 he.2
  generalize hTT : tn (J (m + 1) (66 + 15 * b)) = T at *
  have hdiv : r * e / T ≤ r := by
    refine Nat.div_le_of_le_mul ?_
    rw [Nat.mul_comm T r]
    exact Nat.mul_le_mul_left r (by omega)
  have ev : (nI r * nI e) / nI T = nI (r * e / T) := by rw [nI_ml, pk_div (by omega) (by omega) (by omega)]
  have hn12 : tn (J (m + 1) 12) < 20 := by
    have hq7 := hv
    rw [md_V_eq] at hq7
    have := VV_qle hq7
    omega
  have ez1 := alo_e (y := r * e / T) (by omega) J
  have nc := nb_c (m := m) (J := J) (M_atLeastOne (nI (r * e / T)) J) hn12 h20
  have n0 : (M_newBarrel m (M_atLeastOne (nI (r * e / T)) J) J).2 (m + 1) (66 + 15 * tn (J (m + 1) 7)) = nI 0 := rdNB0 hn12
  have nr := rdNB1 (m := m) (r := M_atLeastOne (nI (r * e / T)) J) (I := J)
  have eM : M_splitNow m b e J = M_splitNow_L40 m b e 10 (M_newBarrel m (M_atLeastOne (nI (r * e / T)) J) J).2 T (nI r) (nI (r * e / T)) (M_newBarrel m (M_atLeastOne (nI (r * e / T)) J) J).1 (T - e) := by
    have q0 : tn (M_ofBarrel m b 0 J) = T := hTT
    have q1 : M_ofBarrel m b 10 J = nI r := er
    simp only [M_splitNow, lt_eq, q0, q1, ev]
  have hte : T - (T - e) = e := by omega
  obtain ⟨l1, l2⟩ := @sp_loop m b e T (tn (J (m + 1) 7)) (nI r) (nI (r * e / T)) (by omega) heb.2.2 (fun q => J (m + 1) (66 + 15 * b + (1 + q))) 10 (T - e) 0 (M_newBarrel m (M_atLeastOne (nI (r * e / T)) J) J).2 (by omega) (by omega) n0 (by omega) (fun q hq => nc _ (by omega))
  refine ⟨r, er, r1, r2, ?_, fun k => ?_⟩
  · rw [eM, nr]; exact l1
  · rw [eM, nr, l2 k, hte, nI_sb hdiv, alo_e (Nat.lt_of_le_of_lt (Nat.sub_le r _) (by omega)), ez1]
theorem sum_app (h : Nat → Int32) (a : Nat) : ∀ n, sumL h (a + n) = sumL h a + sumL (fun j => h (a + j)) n := by
  intro n
  induction n with
  | zero => exact (Int32.add_zero _).symm
  | succ n ih =>
    show sumL h (a + n) + h (a + n) = _
    rw [ih, Int32.add_assoc]
    rfl
theorem act_cut (h : LI B x q I) (hb : b < tn (I (x + 1) 10)) (he : 1 ≤ e ∧ e ≤ 8) : cutQ x (nI b) (nI e) I ∧ LI B x q (L_cut x (nI b) (nI e) I).2 ∧ (L_cut x (nI b) (nI e) I).1 = true := by
  obtain ⟨f, hr, hv, hi, hl, hq, hop⟩ := li_to h
  have hX := h.1
  have hX2 := au_rem hX
  have h6 := hv.2.1.2.2
  have h7 := hv.2.2.1
  have h12 := hv.2.2.2.2.2.1
  have hb' : b < tn (f 7) := by rw [← hr.2.2.1.2.1]; exact hb
  have tb : tn (nI b) = b := tn_nI (by omega)
  have e7 : A_barrelCount x I = f 7 := hr.2.2.1.2.1
  have f7 : f 7 = nI (tn (f 7)) := (nI_tn h7.1).symm
  have hE := hv.2.2.2.2.2.2.2.2.2 b hb'
  have eE : A_eels x (nI b) I = f (66 + 15 * b) := by unfold A_eels; rw [tb]; exact (hr.2.2.2.2.2.2 b hb').1.1
  have fT : f (66 + 15 * b) = nI (tn (f (66 + 15 * b))) := (nI_tn hE.1).symm
  have e0 : ¬ A_eels x (nI b) I = 0 := by rw [eE, fT]; exact nI_ne0 (by omega) (by omega)
  have eS : A_stateOf x (nI b) I = f (66 + 15 * b + 12) := by unfold A_stateOf; rw [tb]; exact (rl_bar hr hb').2.2.1
  have ec := cut_eq (J := gm f) (m := 0) (x := nI b) (e := e) hr hv (isB_t hv hb') (by omega)
  rw [tb] at ec
  by_cases cc : M_canSplit 0 b e (gm f) = true
  · -- cut
    have hK : K_canCut (x + 1) (nI b) (nI e) I = true := ec.trans cc
    have ecR := cut_eq (J := gm f) (m := 0) (x := nI b) (e := e) (rl_rem hX hr hv) hv (isB_t hv hb') (by omega)
    rw [tb] at ecR
    have hst := st_cut (a := x + 1) (m := 0) (B := B) (b := b) (e := e) (I := H_remember (x + 103) (x + 1) I) (J := gm f) ⟨rl_rem hX hr hv, hv, hi⟩ hb' cc he (ecR.trans cc)
    obtain ⟨⟨sr, sv, si⟩, sa⟩ := hst
    -- what canSplit says
    have hw : f (66 + 15 * b + 12) = 0 := by
      refine isW_t.mp (Classical.byContradiction (fun z => ?_))
      unfold M_canSplit at cc
      rw [if_neg z] at cc
      exact absurd cc (by decide)
    unfold M_canSplit at cc
    rw [if_pos (isW_t.mpr hw)] at cc
    have hT : e < tn (f (66 + 15 * b)) := by
      by_cases c : M_ofBarrel 0 b 0 (gm f) ≤ nI e
      · rw [if_pos c] at cc; exact absurd cc (by decide)
      · have c2 : nI e < f (66 + 15 * b) := i_lt c
        rw [fT] at c2
        exact (nI_lt' (by omega) (by omega)).mp c2
    have h20 : tn (f 7) < 20 := by
      by_cases c : M_ofBarrel 0 b 0 (gm f) ≤ nI e
      · rw [if_pos c] at cc; exact absurd cc (by decide)
      · rw [if_neg c] at cc
        by_cases d : nI 20 ≤ f 7
        · rw [if_pos (show nI 20 ≤ gm f (0 + 1) 7 from d)] at cc; exact absurd cc (by decide)
        · rw [f7] at d
          have : ¬ 20 ≤ tn (f 7) := fun z => d ((nI_le' (by decide) (by omega)).mpr z)
          omega
    have hq12 : tn (f 12) ≤ tn (f 7) := VV_qle ((md_V_eq f).mp hv)
    obtain ⟨r, er, r1, r2, s1, ce⟩ := sp_cells (m := 0) (J := gm f) hv hi hb' h20 he hT
    change f (66 + 15 * b + 10) = nI r at er
    have eN : L_split x (nI b) (nI e) I = ((K_cut (x + 1) (nI b) (nI e) (H_remember (x + 103) (x + 1) I)).1, (K_cut (x + 1) (nI b) (nI e) (H_remember (x + 103) (x + 1) I)).2) := by
      unfold L_split A_split
      rw [hK]
      rfl
    have hre : r * e ≤ 999 * 8 := Nat.mul_le_mul r2 he.2
    have cn := ce_new (m := 0) (J := gm f) (r := nI (max 1 (r * e / tn (f (66 + 15 * b))))) (show tn (f 12) < 20 by omega) h20
    rw [s1] at sa
    change _ = nI (tn (f 7)) at sa
    generalize hTT : tn (f (66 + 15 * b)) = T at *
    generalize hkk : tn (f 7) = k at *
    change ∀ j, (M_splitNow 0 b e (gm f)).2 (0 + 1) j = if j = 66 + 15 * b + 10 then nI (max 1 (r - r * e / tn (f (66 + 15 * b)))) else if j = 66 + 15 * b then nI (tn (f (66 + 15 * b)) - e) else if j = 66 + 15 * tn (f 7) then nI (0 + e) else if 67 + 15 * tn (f 7) + 0 ≤ j ∧ j < 67 + 15 * tn (f 7) + 0 + e then f (66 + 15 * b + (1 + (tn (f (66 + 15 * b)) - e + (j - (67 + 15 * tn (f 7) + 0))))) else (M_newBarrel 0 (nI (max 1 (r * e / tn (f (66 + 15 * b))))) (gm f)).2 (0 + 1) j at ce
    change ∀ j, (M_newBarrel 0 (nI (max 1 (r * e / T))) (gm f)).2 (0 + 1) j = if j = 12 then f 12 + nI 1 else if j = 16 + tn (f 12) then nI (tn (f 7)) else if j = 66 + 15 * tn (f 7) + 12 then nI 0 else if j = 7 then f 7 + nI 1 else if j = 66 + 15 * tn (f 7) + 14 then -1 else if j = 66 + 15 * tn (f 7) + 13 then -1 else if j = 66 + 15 * tn (f 7) + 11 then nI 0 else if j = 66 + 15 * tn (f 7) + 10 then nI (max 1 (r * e / T)) else if j = 66 + 15 * tn (f 7) + 0 then nI 0 else f j at cn
    rw [hTT, hkk] at ce
    rw [hkk] at cn
    generalize (M_splitNow 0 b e (gm f)).2 (0 + 1) = g at ce sr sv si
    generalize (M_newBarrel 0 (nI (max 1 (r * e / T))) (gm f)).2 (0 + 1) = nb at ce cn
    have s0 : ∀ j, j < 7 ∨ (7 < j ∧ j < 12) ∨ (12 < j ∧ j < 16) ∨ (36 ≤ j ∧ j < 66) → g j = f j := fun j hj => by rw [ce]; simp (disch := omega) only [if_neg, cn]
    have s7 : g 7 = nI (k + 1) := by
      rw [ce]; simp (disch := omega) only [if_neg, cn, if_pos, if_true]
      rw [f7, nI_add]
    have s12 : g 12 = f 12 + nI 1 := by rw [ce]; simp (disch := omega) only [if_neg, cn, if_pos, if_true]
    have s16 : g (16 + tn (f 12)) = nI k := by rw [ce]; simp (disch := omega) only [if_neg, cn, if_pos, if_true]
    have bn : ∀ i, i < 20 → i ≠ k → ∀ w, 11 ≤ w → w < 15 → g (66 + 15 * i + w) = f (66 + 15 * i + w) := fun i hi hne w h1 hw => by rw [ce]; simp (disch := omega) only [if_neg, cn]
    have b10 : g (66 + 15 * k + 10) = nI (max 1 (r * e / T)) := by rw [ce]; simp (disch := omega) only [if_neg, cn, if_pos, if_true]
    have b11 : g (66 + 15 * k + 11) = nI 0 := by rw [ce]; simp (disch := omega) only [if_neg, cn, if_pos, if_true]
    have b12 : g (66 + 15 * k + 12) = nI 0 := by rw [ce]; simp (disch := omega) only [if_neg, cn, if_pos, if_true]
    have b13 : g (66 + 15 * k + 13) = -1 := by rw [ce]; simp (disch := omega) only [if_neg, cn, if_pos, if_true]
    have b14 : g (66 + 15 * k + 14) = -1 := by rw [ce]; simp (disch := omega) only [if_neg, cn, if_pos, if_true]
    have b0 : g (66 + 15 * k + 0) = nI e := by
      have := ce (66 + 15 * k)
      rw [if_neg (by omega), if_neg (by omega), if_pos rfl, Nat.zero_add] at this
      exact this
    have bL : ∀ j, j < e → g (66 + 15 * k + (1 + j)) = f (66 + 15 * b + (1 + (T - e + j))) := fun j hj => by
      rw [ce, if_neg (by omega), if_neg (by omega), if_neg (by omega), if_pos (by omega)]
      congr 1; omega
    have c10 : g (66 + 15 * b + 10) = nI (max 1 (r - r * e / T)) := by rw [ce, if_pos rfl]
    have c0 : g (66 + 15 * b + 0) = nI (T - e) := by
      have := ce (66 + 15 * b)
      rw [if_neg (by omega), if_pos rfl] at this
      exact this
    have cL : ∀ j, j < 9 → g (66 + 15 * b + (1 + j)) = f (66 + 15 * b + (1 + j)) := fun j hj => by rw [ce]; simp (disch := omega) only [if_neg, cn]
    have hlg := lk_new (k := k) hv hl hkk.symm h20 (fun j hj => s0 j (by omega)) s7 bn b11 b12 b13 b14
    have tg7 : tn (g 7) = k + 1 := by rw [s7, tn_nI (by omega)]
    generalize hJ2 : (K_cut (x + 1) (nI b) (nI e) (H_remember (x + 103) (x + 1) I)).2 = J2 at sr eN
    have hXJ : au_V x J2 := by rw [← hJ2]; exact au_mk hX2 (fun z hz => rr_cut (by omega) hX2.1) (kV_cut hX2.1)
    have eJq : J2 q = I q := by
      have h1 := h.2.2.2.2.1
      rw [← hJ2, rr_cut (by omega) hX2.1, rr_rem hX (by omega)]
    have hLI : LI B x q J2 := li_fin hXJ eJq sr sv si hlg ⟨s0 0 (by omega), s0 1 (by omega), s0 2 (by omega), s0 4 (by omega)⟩ hq h.2.2.2.2.1 h.2.2.2.2.2.1 (op_c (s0 0 (by omega)) (s0 1 (by omega)) (s0 5 (by omega)) (s0 8 (by omega)) hop)
    rw [sa] at eN
    have tk : tn (nI k) = k := tn_nI (by omega)
    have i10 : I (x + 1) 10 = nI k := by rw [hr.2.2.1.2.1]; exact f7
    have j10 : tn (J2 (x + 1) 10) = k + 1 := by rw [sr.2.2.1.2.1]; exact tg7
    obtain ⟨⟨k1, k2, -, -⟩, kl, -⟩ := sr.2.2.2.2.2.2 k (by omega)
    obtain ⟨⟨p1, p2, -, -⟩, pl, -⟩ := sr.2.2.2.2.2.2 b (by omega)
    obtain ⟨⟨o1, o2, -, -⟩, ol, -⟩ := hr.2.2.2.2.2.2 b (by omega)
    dsimp only at k1 k2 p1 p2 o1 o2
    rw [b0] at k1 k2
    rw [c0] at p1 p2
    rw [tn_nI (by omega)] at k2 p2
    rw [show tn (f (66 + 15 * b + 0)) = T from hTT] at o2
    have dv : (nI r * nI e) / nI T = nI (r * e / T) := by rw [nI_ml, pk_div (by omega) (by omega) (by omega)]
    have hdiv : r * e / T ≤ r := by
      refine Nat.div_le_of_le_mul ?_
      rw [Nat.mul_comm T r]
      exact Nat.mul_le_mul_left r (by omega)
    have eRes : A_reserve x (nI b) I = nI r := by unfold A_reserve; rw [tb, (rl_bar hr (by omega)).1]; exact er
    have cutq : cutQ x (nI b) (nI e) I := by
      unfold cutQ
      rw [eN]
      refine ⟨⟨hXJ, nI_ge0 (by omega), by rw [tb, j10]; omega⟩, fun _ => ⟨by rw [i10]; exact nI_ge0 (by omega), by rw [i10, tk, j10]; omega⟩, e0⟩
    refine ⟨cutq, ?_⟩
    suffices hs : L_cut x (nI b) (nI e) I = (true, J2) by rw [hs]; exact ⟨hLI, rfl⟩
    unfold L_cut
    rw [eN]
    simp only [lt]
    have hb40 : (if A_barrelCount x I = nI 20 then true else if A_eels x (nI b) I ≤ nI e then true else if A_stateOf x (nI b) J2 = 0 then false else true) = false := by
      rw [e7, f7, if_neg (fun z => absurd ((nI_eq (by omega) (by decide)).mp z) (by omega)), eE, fT, if_neg (fun z => absurd ((nI_le' (by omega) (by omega)).mp z) (by omega))]
      rw [if_pos (show A_stateOf x (nI b) J2 = 0 by unfold A_stateOf; rw [tb, (rl_bar sr (b := b) (by omega)).2.2.1, bn b (by omega) (by omega) 12 (by decide) (by decide)]; exact hw)]
    rw [hb40, if_neg (show ¬ false = true by decide), e7, f7]
    rw [if_pos rfl]
    rw [if_pos (show A_eels x (nI k) J2 = nI e by unfold A_eels; rw [tk]; exact k1)]
    rw [if_pos (show A_eels x (nI b) J2 = A_eels x (nI b) I - nI e by rw [eE, fT, nI_sb (by omega)]; unfold A_eels; rw [tb]; exact p1)]
    rw [if_pos (show A_totalLength x (nI k) J2 + A_totalLength x (nI b) J2 = A_totalLength x (nI b) I by
      unfold A_totalLength
      rw [tk, tb, k2, p2, o2]
      rw [sumL_c (f := fun j => f (66 + 15 * b + (1 + (T - e + j)))) e (fun j hj => bL j hj), sumL_c (f := fun j => f (66 + 15 * b + (1 + j))) (T - e) (fun j hj => cL j (by omega))]
      have := sum_app (fun j => f (66 + 15 * b + (1 + j))) (T - e) e
      rw [show T - e + e = T by omega] at this
      rw [this, Int32.add_comm])]
    rw [if_pos (show A_queuedBarrel x (A_queueLength x I) J2 = nI k by
      rw [show A_queueLength x I = f 12 from hr.2.2.1.2.2]
      have e12 := (nI_tn h12.1).symm
      have g12 : g 12 = nI (tn (f 12) + 1) := by rw [s12, e12, nI_add, tn_nI (by omega)]
      unfold A_queuedBarrel
      rw [if_neg (i_ge h12.1), show J2 (x + 1) 12 = g 12 from sr.2.2.1.2.2, if_pos (by rw [g12, e12, tn_nI (by omega)]; exact (nI_lt' (by omega) (by omega)).mpr (by omega))]
      rw [sr.2.2.2.2.2.1 (tn (f 12)) (by rw [g12, tn_nI (by omega)]; omega)]
      exact s16)]
    rw [eRes, eE, fT, dv]
    rw [if_pos (show A_reserve x (nI k) J2 = i_max (nI 1) (nI (r * e / T)) by rw [nI_mx (by decide) (by omega)]; unfold A_reserve; rw [tk, (rl_bar sr (b := k) (by omega)).1]; exact b10)]
    rw [if_pos (show A_reserve x (nI b) J2 = i_max (nI 1) (nI r - nI (r * e / T)) by rw [nI_sb hdiv, nI_mx (by decide) (Nat.lt_of_le_of_lt (Nat.sub_le r _) (by omega))]; unfold A_reserve; rw [tb, (rl_bar sr (b := b) (by omega)).1]; exact c10)]
    rw [if_pos (show A_returns x (nI k) J2 = 0 by unfold A_returns; rw [tk, (rl_bar sr (b := k) (by omega)).2.1]; exact b11)]
    rw [if_pos (show A_stateOf x (nI k) J2 = 0 by unfold A_stateOf; rw [tk, (rl_bar sr (b := k) (by omega)).2.2.1]; exact b12)]
  · have eK : K_canCut (x + 1) (nI b) (nI e) I = false := ec.trans (Bool.eq_false_iff.mpr cc)
    have eN : L_split x (nI b) (nI e) I = (-100, I) := by
      unfold L_split A_split
      rw [eK]
      rfl
    refine ⟨?_, ?_⟩
    · unfold cutQ
      rw [eN]
      refine ⟨⟨hX, nI_ge0 (by omega), by rw [tb]; exact hb⟩, fun z => absurd z ?_, e0⟩
      show ¬ (-100 : Int32) = I (x + 1) 10
      rw [hr.2.2.1.2.1]
      intro z
      have := h7.1
      rw [← z] at this
      exact absurd this (by decide)
    · suffices hs : L_cut x (nI b) (nI e) I = (true, I) by rw [hs]; exact ⟨h, rfl⟩
      unfold L_cut
      rw [eN]
      simp only [lt]
      have hb40 : (if A_barrelCount x I = nI 20 then true else if A_eels x (nI b) I ≤ nI e then true else if A_stateOf x (nI b) I = 0 then false else true) = true := by
        by_cases d1 : A_barrelCount x I = nI 20
        · rw [if_pos d1]
        · rw [if_neg d1]
          by_cases d2 : A_eels x (nI b) I ≤ nI e
          · rw [if_pos d2]
          · rw [if_neg d2]
            by_cases d3 : A_stateOf x (nI b) I = 0
            · exfalso
              refine cc ?_
              unfold M_canSplit
              rw [if_pos (isW_t.mpr (eS.symm.trans d3)), if_neg (show ¬ M_ofBarrel 0 b 0 (gm f) ≤ nI e from fun z => d2 (by rw [eE]; exact z)), if_neg (show ¬ nI 20 ≤ gm f (0 + 1) 7 from fun z => ?_)]
              rw [e7, f7] at d1
              change nI 20 ≤ f 7 at z
              rw [f7] at z
              have := (nI_le' (by decide) (by omega)).mp z
              exact d1 (by congr 1; omega)
            · rw [if_neg d3]
      rw [hb40, if_pos rfl, if_pos trivial, if_pos trivial, if_pos trivial]
end CUT
