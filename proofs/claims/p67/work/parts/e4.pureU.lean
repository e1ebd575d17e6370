/-! THE FORECASTS COME TRUE -/
section FOU
variable {x q B b : Nat} {I J : ow_I} {f g : Nat → Int32}
theorem fo_all (h : LI B x q I) (hB : B ≤ 2000) (hb : b < tn (I (x + 1) 10)) : qFor B x q (nI b) I ∧ ∃ f : Nat → Int32, md_V f ∧ st (x + 1) 0 B (fo3 x (nI b) I) (pit 0 0 (gm f)) ∧ b < tn (f 7) ∧ tol f b 0 500 (A_minutesToSale x (nI b) I).1 ∧ ∀ N, N = 40 → (A_buyerAfter x (nI b) (nI N) (fo1 x (nI b) I)).1 = pit 0 N (gm f) (0 + 1) (66 + 15 * b + 13) ∧ (A_sellerCoinsAfter x (nI N) (fo2 x (nI b) I)).1 = pit 0 N (gm f) (0 + 1) 13 := by
  obtain ⟨f, hr, hv, hi, hl, hq, hop⟩ := li_to h
  have h7 := hv.2.2.1.2
  have hb' : b < tn (f 7) := by rw [← hr.2.2.1.2.1]; exact hb
  obtain ⟨m1, m2, m3⟩ := fo_ms (x := x) (P := 1000 + 40 * B) (by omega) hB (by omega) h.1 hr hv hi hl hb' (sc_cp h hr hv hi)
  obtain ⟨I1, e1⟩ : ∃ I1, (A_minutesToSale x (nI b) I).2 = I1 := ⟨_, rfl⟩
  rw [e1] at m1 m2
  have L1 := li_sc h m1 m2
  have r1 : rl (x + 1) I1 f := rl_I hr hv (fun z z1 z2 => m1 z (by omega)) (fun _ _ => rfl)
  obtain ⟨N, hN⟩ : ∃ N, N = 40 := ⟨_, rfl⟩
  obtain ⟨I2, g2⟩ : ∃ I2, I2 = (A_buyerAfter x (nI b) (nI N) I1).2 := ⟨_, rfl⟩
  obtain ⟨I3, g3⟩ : ∃ I3, I3 = (A_sellerCoinsAfter x (nI N) I2).2 := ⟨_, rfl⟩
  have q1 : fo1 x (nI b) I = I1 := by unfold fo1; exact e1
  have q2 : fo2 x (nI b) I = I2 := by unfold fo2; rw [q1, ← hN]; exact g2.symm
  have q3 : fo3 x (nI b) I = I3 := by unfold fo3; rw [q2, ← hN]; exact g3.symm
  have b2 := ba_eq (x := x) (n := N) (K := I1) (by omega) (show b < 2 ^ 31 by omega)
  have b3 := sa_eq (x := x) (n := N) (K := I2) (by omega)
  obtain ⟨m2', L2, r2, f2⟩ := fs_li (n := N) L1 r1 hv hi (by omega) rfl (g2.trans b2.2)
  obtain ⟨m3', L3, r3, f3⟩ := fs_li (n := N) L2 r2 hv hi (by omega) rfl (g3.trans b3.2)
  obtain ⟨p1, p2, p3, p4⟩ := fs_p (P := 1000 + 40 * B) h (by omega) hB hr hv hi hl N (by omega)
  have c1 : I1 (x + 1) 10 = I (x + 1) 10 := by rw [m1 _ (by omega)]
  have c2 : I2 (x + 1) 10 = I (x + 1) 10 := by rw [m2' _ (by omega), c1]
  have c3 : I3 (x + 1) 10 = I (x + 1) 10 := by rw [m3' _ (by omega), c2]
  refine ⟨?_, f, hv, ?_, hb', m3, ?_⟩
  · unfold qFor
    rw [q1, q2, q3]
    exact ⟨⟨L1, c1⟩, ⟨L2, c2⟩, L3, c3⟩
  · rw [q3]
    exact ⟨r3, hv, hi⟩
  · rw [q1, q2]
    intro M hM
    have eM : M = N := hM.trans hN.symm
    subst eM
    rw [b2.1, b3.1, ← b2.2, ← b3.2, ← g2, ← g3]
    exact ⟨(rl_bar f2.1 (b := b) (by rw [p4]; exact hb')).2.2.2.1, f3.1.2.1.2.2.2.1⟩
theorem pm_sJ (hX : au_V x I) (h : st (x + 1) 0 B I J) (hB : B < 2 ^ 28) : st (x + 1) 0 (B + 1) (A_passMinutes x (nI 1) I).2 (M_passOne 0 J) := by
  have k := st_let (a := x + 1) (m := 0) (B := B) (I := H_remember (x + 103) (x + 1) I) (J := J) (n2 := 1) ⟨rl_rem hX h.1 h.2.1, h.2.1, h.2.2⟩ (by omega)
  rw [pm_eq.1]
  have e := pass_it (m := 0) (n := 1) (J := J)
  rw [e.1] at k
  exact k.1
theorem st_b {a B' : Nat} (h : st a 0 B' I J) (hb : b < tn (I a 10)) : I (a + 11 + 2 * b) 7 = J (0 + 1) (66 + 15 * b + 12) ∧ I (a + 11 + 2 * b) 8 = J (0 + 1) (66 + 15 * b + 13) := by
  obtain ⟨-, -, c7, c8, -⟩ := rl_bar h.1 (b := b) (by rw [← h.1.2.2.1.2.1]; exact hb)
  exact ⟨c7, c8⟩
/-- two first sales are one -/
theorem tol_2 {r s : Int32} {N : Nat} (hN : N ≤ 500) (h1 : tol f b 0 500 r) (h2 : tol f b 0 N s) : (s < 0 → r < 0 ∨ (¬ r < 0 ∧ ¬ r ≤ nI N)) ∧ (¬ s < 0 → r = s) := by
  rcases h2 with ⟨j, a1, a2, a3, a4, a5⟩ | ⟨a1, a2⟩
  · refine ⟨fun z => absurd z (by rw [a5]; exact Int32.not_lt.mpr (nI_ge0 (by omega))), fun _ => ?_⟩
    rcases h1 with ⟨k, b1, b2, b3, b4, b5⟩ | ⟨b1, b2⟩
    · have : j = k := by
        rcases Nat.lt_trichotomy j k with z | z | z
        · exact absurd a3 (b4 j (Nat.zero_le _) z)
        · exact z
        · exact absurd b3 (a4 k (Nat.zero_le _) z)
      rw [a5, b5, this]
    · exact absurd a3 (b1 j (Nat.zero_le _) (by omega))
  · refine ⟨fun _ => ?_, fun z => absurd (by rw [a2]; decide) z⟩
    rcases h1 with ⟨k, b1, b2, b3, b4, b5⟩ | ⟨b1, b2⟩
    · right
      rw [b5]
      refine ⟨Int32.not_lt.mpr (nI_ge0 (by omega)), fun z => ?_⟩
      have : k ≤ N := (nI_le' (by omega) (by omega)).mp z
      exact a1 k (Nat.zero_le _) this b3
    · left
      rw [b2]; decide
theorem fl_l {ms bu se : Int32} {N : Nat} (hN : N = 40) (hb20 : b < 20) (ht : tol f b 0 500 ms) (hbu : bu = pit 0 N (gm f) (0 + 1) (66 + 15 * b + 13)) (hse : se = pit 0 N (gm f) (0 + 1) 13) : ∀ (fuel i B : Nat) (I : ow_I) (s : Int32), 1 ≤ i → i ≤ N + 1 → N + 1 < i + fuel → B ≤ 3000 + i → LI B x q I → st (x + 1) 0 B I (pit 0 (i - 1) (gm f)) → b < tn (I (x + 1) 10) → tol f b 0 (i - 1) s → (L_foretold_L42 x q (nI b) fuel I ms bu se s i).1 = true ∧ LI (B + (N + 1 - i)) x q (L_foretold_L42 x q (nI b) fuel I ms bu se s i).2 := by
  have tb : tn (nI b) = b := tn_nI (by omega)
  intro fuel
  induction fuel with
  | zero => intro i B I s h1 h2 h3; omega
  | succ fuel ih =>
    intro i B I s h1 h2 h3 hB hI hs hb ho
    simp only [L_foretold_L42, lt]
    by_cases c : 40 < i
    · rw [if_pos c]
      have ei : i - 1 = N := by omega
      have e0 : N + 1 - i = 0 := by omega
      rw [ei] at hs ho
      have sb := (st_b hs hb).2
      have k1 : A_buyerOf x (nI b) I = bu := by
        unfold A_buyerOf
        rw [tb, hbu]
        exact sb
      have k2 : A_sellerCoins x I = se := by
        rw [hse]
        exact hs.1.2.1.2.2.2.1
      obtain ⟨t1, t2⟩ := tol_2 (N := N) (by omega) ht ho
      rw [if_pos k1, if_pos k2, e0]
      by_cases d : s < 0
      · rw [if_pos d]
        rcases t1 d with z | ⟨z1, z2⟩
        · rw [if_pos z]; exact ⟨rfl, hI⟩
        · rw [if_neg z1, if_neg (by rw [← hN]; exact z2)]; exact ⟨rfl, hI⟩
      · rw [if_neg d, if_pos (t2 d)]; exact ⟨rfl, hI⟩
    · rw [if_neg c]
      obtain ⟨t1, t2⟩ := minute_true hI (by omega)
      rw [if_pos t1, t2]
      obtain ⟨l1, l2, -⟩ := pm_LI hI (by omega)
      have hs' := pm_sJ hI.1 hs (by omega)
      rw [← pit_s, show i - 1 + 1 = i by omega] at hs'
      have hb' : b < tn ((A_passMinutes x (nI 1) I).2 (x + 1) 10) := by rw [l2]; exact hb
      have sb := (st_b hs' hb').1
      have eS : A_stateOf x (nI b) (A_passMinutes x (nI 1) I).2 = pit 0 i (gm f) (0 + 1) (66 + 15 * b + 12) := by
        unfold A_stateOf
        rw [tb]
        exact sb
      rw [eS]
      have go : ∀ s', tol f b 0 i s' → (L_foretold_L42 x q (nI b) fuel (A_passMinutes x (nI 1) I).2 ms bu se s' (i + 1)).1 = true ∧ LI (B + (N + 1 - i)) x q (L_foretold_L42 x q (nI b) fuel (A_passMinutes x (nI 1) I).2 ms bu se s' (i + 1)).2 := fun s' hs2 => by
        have := ih (i + 1) (B + 1) _ s' (by omega) (by omega) (by omega) (by omega) l1 (by rw [show i + 1 - 1 = i by omega]; exact hs') hb' (by rw [show i + 1 - 1 = i by omega]; exact hs2)
        rw [show B + 1 + (N + 1 - (i + 1)) = B + (N + 1 - i) by omega] at this
        exact this
      rcases ho with ⟨j, a1, a2, a3, a4, a5⟩ | ⟨a1, a2⟩
      · rw [if_pos (show 0 ≤ s by rw [a5]; exact nI_ge0 (by omega))]
        exact go s (Or.inl ⟨j, a1, by omega, a3, a4, a5⟩)
      · rw [if_neg (show ¬ 0 ≤ s by rw [a2]; exact i_m1)]
        by_cases d : pit 0 i (gm f) (0 + 1) (66 + 15 * b + 12) = nI 2
        · rw [if_pos d]
          exact go _ (Or.inl ⟨i, Nat.zero_le _, Nat.le_refl _, d, fun k _ k2 => a1 k (Nat.zero_le _) (by omega), rfl⟩)
        · rw [if_neg d]
          refine go s (Or.inr ⟨fun k k1 k2 => ?_, a2⟩)
          by_cases e : k = i
          · subst e; exact d
          · exact a1 k k1 (by omega)
theorem foretold_true {bi : Int32} (h : LI B x q I) (hB : B ≤ 2000) (hb : 0 ≤ bi ∧ tn bi < tn (I (x + 1) 10)) : qFor B x q bi I ∧ qMin x q ∧ (L_foretold x q bi I).1 = true ∧ LI (B + 50) x q (L_foretold x q bi I).2 := by
  obtain ⟨b, eb⟩ : ∃ b, tn bi = b := ⟨_, rfl⟩
  have ebi : bi = nI b := by rw [← eb]; exact (nI_tn hb.1).symm
  have hbb := hb.2
  rw [eb] at hbb
  subst ebi
  clear eb hb
  have tb : tn (nI b) = b := tn_nI (by have := (mk_nbar h.2.2.1).2; omega)
  obtain ⟨hQ, f, hv, hs, hb', ht, hN⟩ := fo_all h hB hbb
  refine ⟨hQ, q_min, ?_⟩
  have h7 := hv.2.2.1.2
  obtain ⟨k1, k2⟩ := hN 40 rfl
  have l3 := hQ.2.2.1
  have c3 := hQ.2.2.2
  have hb3 : b < tn (fo3 x (nI b) I (x + 1) 10) := by rw [c3]; exact hbb
  have eS : A_stateOf x (nI b) (fo3 x (nI b) I) = f (66 + 15 * b + 12) := by
    unfold A_stateOf
    rw [tb]
    exact (st_b hs hb3).1
  obtain ⟨N, hN'⟩ : ∃ N, N = 40 := ⟨_, rfl⟩
  rw [← hN'] at k1 k2
  have key : ∀ s, tol f b 0 0 s → (L_foretold_L42 x q (nI b) 41 (fo3 x (nI b) I) (A_minutesToSale x (nI b) I).1 (A_buyerAfter x (nI b) (nI N) (fo1 x (nI b) I)).1 (A_sellerCoinsAfter x (nI N) (fo2 x (nI b) I)).1 s 1).1 = true ∧ LI (B + 50) x q (L_foretold_L42 x q (nI b) 41 (fo3 x (nI b) I) (A_minutesToSale x (nI b) I).1 (A_buyerAfter x (nI b) (nI N) (fo1 x (nI b) I)).1 (A_sellerCoinsAfter x (nI N) (fo2 x (nI b) I)).1 s 1).2 := fun s hs2 => by
    obtain ⟨M, hM⟩ : ∃ M, M = 41 := ⟨_, rfl⟩
    rw [← hM]
    obtain ⟨z1, z2⟩ := fl_l (x := x) (q := q) hN' (by omega) ht k1 k2 M 1 B (fo3 x (nI b) I) s (Nat.le_refl _) (by omega) (by omega) (by omega) l3 hs hb3 hs2
    exact ⟨z1, li_mono z2 (by omega) (by omega)⟩
  rw [hN'] at key
  unfold fo3 fo2 fo1 at key eS
  unfold L_foretold
  rw [lt_eq, lt_eq, lt_eq, lt_eq]
  refine key _ ?_
  rw [eS]
  by_cases c : f (66 + 15 * b + 12) = nI 2
  · rw [if_pos c]
    exact Or.inl ⟨0, Nat.le_refl _, Nat.le_refl _, c, fun k _ k2 => absurd k2 (by omega), rfl⟩
  · rw [if_neg c]
    refine Or.inr ⟨fun k _ k2 => ?_, rfl⟩
    have : k = 0 := by omega
    subst this
    exact c
end FOU
